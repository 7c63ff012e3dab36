theorem dL_cell_0 : decode cL_cell 0 = .ok (.iload_n 1, 1) := by decide +kernel
theorem dL_cell_1 : decode cL_cell 1 = .ok (.aload_n 0, 1) := by decide +kernel
theorem dL_cell_2 : decode cL_cell 2 = .ok (.arraylength, 1) := by decide +kernel
theorem dL_cell_3 : decode cL_cell 3 = .ok (.if_icmp .ge 9, 3) := by decide +kernel
theorem dL_cell_6 : decode cL_cell 6 = .ok (.aload_n 0, 1) := by decide +kernel
theorem dL_cell_7 : decode cL_cell 7 = .ok (.iload_n 1, 1) := by decide +kernel
theorem dL_cell_8 : decode cL_cell 8 = .ok (.iaload, 1) := by decide +kernel
theorem dL_cell_9 : decode cL_cell 9 = .ok (.goto 11, 3) := by decide +kernel
theorem dL_cell_12 : decode cL_cell 12 = .ok (.ldc 7, 2) := by decide +kernel
theorem dL_cell_14 : decode cL_cell 14 = .ok (.iload_n 1, 1) := by decide +kernel
theorem dL_cell_15 : decode cL_cell 15 = .ok (.imul, 1) := by decide +kernel
theorem dL_cell_16 : decode cL_cell 16 = .ok (.sipush 10067, 3) := by decide +kernel
theorem dL_cell_19 : decode cL_cell 19 = .ok (.iadd, 1) := by decide +kernel
theorem dL_cell_20 : decode cL_cell 20 = .ok (.ldc 8, 2) := by decide +kernel
theorem dL_cell_22 : decode cL_cell 22 = .ok (.iand, 1) := by decide +kernel
theorem dL_cell_23 : decode cL_cell 23 = .ok (.ireturn, 1) := by decide +kernel
theorem dL_errors_0 : decode cL_errors 0 = .ok (.aload_n 0, 1) := by decide +kernel
theorem dL_errors_1 : decode cL_errors 1 = .ok (.invokevirtual 9, 3) := by decide +kernel
theorem dL_errors_4 : decode cL_errors 4 = .ok (.istore_n 1, 1) := by decide +kernel
theorem dL_errors_5 : decode cL_errors 5 = .ok (.aload_n 0, 1) := by decide +kernel
theorem dL_errors_6 : decode cL_errors 6 = .ok (.sipush 256, 3) := by decide +kernel
theorem dL_errors_9 : decode cL_errors 9 = .ok (.invokevirtual 15, 3) := by decide +kernel
theorem dL_errors_12 : decode cL_errors 12 = .ok (.bipush (-2), 2) := by decide +kernel
theorem dL_errors_14 : decode cL_errors 14 = .ok (.if_icmp .ne 408, 3) := by decide +kernel
theorem dL_errors_17 : decode cL_errors 17 = .ok (.aload_n 0, 1) := by decide +kernel
theorem dL_errors_18 : decode cL_errors 18 = .ok (.iconst (-1), 1) := by decide +kernel
theorem dL_errors_19 : decode cL_errors 19 = .ok (.invokevirtual 15, 3) := by decide +kernel
theorem dL_errors_22 : decode cL_errors 22 = .ok (.bipush (-2), 2) := by decide +kernel
theorem dL_errors_24 : decode cL_errors 24 = .ok (.if_icmp .ne 398, 3) := by decide +kernel
theorem dL_errors_27 : decode cL_errors 27 = .ok (.aload_n 0, 1) := by decide +kernel
theorem dL_errors_28 : decode cL_errors 28 = .ok (.iconst 2, 1) := by decide +kernel
theorem dL_errors_29 : decode cL_errors 29 = .ok (.invokevirtual 21, 3) := by decide +kernel
theorem dL_errors_32 : decode cL_errors 32 = .ok (.iconst (-1), 1) := by decide +kernel
theorem dL_errors_33 : decode cL_errors 33 = .ok (.if_icmp .ne 389, 3) := by decide +kernel
theorem dL_errors_36 : decode cL_errors 36 = .ok (.aload_n 0, 1) := by decide +kernel
theorem dL_errors_37 : decode cL_errors 37 = .ok (.iconst (-1), 1) := by decide +kernel
theorem dL_errors_38 : decode cL_errors 38 = .ok (.invokevirtual 21, 3) := by decide +kernel
theorem dL_errors_41 : decode cL_errors 41 = .ok (.iconst (-1), 1) := by decide +kernel
theorem dL_errors_42 : decode cL_errors 42 = .ok (.if_icmp .ne 380, 3) := by decide +kernel
theorem dL_errors_45 : decode cL_errors 45 = .ok (.aload_n 0, 1) := by decide +kernel
theorem dL_errors_46 : decode cL_errors 46 = .ok (.iload_n 1, 1) := by decide +kernel
theorem dL_errors_47 : decode cL_errors 47 = .ok (.invokevirtual 24, 3) := by decide +kernel
theorem dL_errors_50 : decode cL_errors 50 = .ok (.iconst (-1), 1) := by decide +kernel
theorem dL_errors_51 : decode cL_errors 51 = .ok (.if_icmp .ne 371, 3) := by decide +kernel
theorem dL_errors_54 : decode cL_errors 54 = .ok (.aload_n 0, 1) := by decide +kernel
theorem dL_errors_55 : decode cL_errors 55 = .ok (.iconst (-1), 1) := by decide +kernel
theorem dL_errors_56 : decode cL_errors 56 = .ok (.invokevirtual 24, 3) := by decide +kernel
theorem dL_errors_59 : decode cL_errors 59 = .ok (.iconst (-1), 1) := by decide +kernel
theorem dL_errors_60 : decode cL_errors 60 = .ok (.if_icmp .ne 362, 3) := by decide +kernel
theorem dL_errors_63 : decode cL_errors 63 = .ok (.aload_n 0, 1) := by decide +kernel
theorem dL_errors_64 : decode cL_errors 64 = .ok (.sipush 1000, 3) := by decide +kernel
theorem dL_errors_67 : decode cL_errors 67 = .ok (.invokevirtual 27, 3) := by decide +kernel
theorem dL_errors_70 : decode cL_errors 70 = .ok (.bipush (-2), 2) := by decide +kernel
theorem dL_errors_72 : decode cL_errors 72 = .ok (.if_icmp .ne 350, 3) := by decide +kernel
theorem dL_errors_75 : decode cL_errors 75 = .ok (.aload_n 0, 1) := by decide +kernel
theorem dL_errors_76 : decode cL_errors 76 = .ok (.iconst (-1), 1) := by decide +kernel
theorem dL_errors_77 : decode cL_errors 77 = .ok (.invokevirtual 27, 3) := by decide +kernel
theorem dL_errors_80 : decode cL_errors 80 = .ok (.bipush (-2), 2) := by decide +kernel
theorem dL_errors_82 : decode cL_errors 82 = .ok (.if_icmp .ne 340, 3) := by decide +kernel
theorem dL_errors_85 : decode cL_errors 85 = .ok (.aload_n 0, 1) := by decide +kernel
theorem dL_errors_86 : decode cL_errors 86 = .ok (.sipush 1000, 3) := by decide +kernel
theorem dL_errors_89 : decode cL_errors 89 = .ok (.invokevirtual 30, 3) := by decide +kernel
theorem dL_errors_92 : decode cL_errors 92 = .ok (.bipush (-2), 2) := by decide +kernel
theorem dL_errors_94 : decode cL_errors 94 = .ok (.if_icmp .ne 328, 3) := by decide +kernel
theorem dL_errors_97 : decode cL_errors 97 = .ok (.aload_n 0, 1) := by decide +kernel
theorem dL_errors_98 : decode cL_errors 98 = .ok (.iconst 0, 1) := by decide +kernel
theorem dL_errors_99 : decode cL_errors 99 = .ok (.invokevirtual 33, 3) := by decide +kernel
theorem dL_errors_102 : decode cL_errors 102 = .ok (.bipush (-2), 2) := by decide +kernel
theorem dL_errors_104 : decode cL_errors 104 = .ok (.if_icmp .ne 318, 3) := by decide +kernel
theorem dL_errors_107 : decode cL_errors 107 = .ok (.aload_n 0, 1) := by decide +kernel
theorem dL_errors_108 : decode cL_errors 108 = .ok (.sipush 1000, 3) := by decide +kernel
theorem dL_errors_111 : decode cL_errors 111 = .ok (.invokevirtual 33, 3) := by decide +kernel
theorem dL_errors_114 : decode cL_errors 114 = .ok (.bipush (-2), 2) := by decide +kernel
theorem dL_errors_116 : decode cL_errors 116 = .ok (.if_icmp .ne 306, 3) := by decide +kernel
theorem dL_errors_119 : decode cL_errors 119 = .ok (.aload_n 0, 1) := by decide +kernel
theorem dL_errors_120 : decode cL_errors 120 = .ok (.iconst 0, 1) := by decide +kernel
theorem dL_errors_121 : decode cL_errors 121 = .ok (.invokevirtual 36, 3) := by decide +kernel
theorem dL_errors_124 : decode cL_errors 124 = .ok (.bipush (-2), 2) := by decide +kernel
theorem dL_errors_126 : decode cL_errors 126 = .ok (.if_icmp .ne 296, 3) := by decide +kernel
theorem dL_errors_129 : decode cL_errors 129 = .ok (.aload_n 0, 1) := by decide +kernel
theorem dL_errors_130 : decode cL_errors 130 = .ok (.sipush 1000, 3) := by decide +kernel
theorem dL_errors_133 : decode cL_errors 133 = .ok (.invokevirtual 36, 3) := by decide +kernel
theorem dL_errors_136 : decode cL_errors 136 = .ok (.bipush (-2), 2) := by decide +kernel
theorem dL_errors_138 : decode cL_errors 138 = .ok (.if_icmp .ne 284, 3) := by decide +kernel
theorem dL_errors_141 : decode cL_errors 141 = .ok (.aload_n 0, 1) := by decide +kernel
theorem dL_errors_142 : decode cL_errors 142 = .ok (.iconst 0, 1) := by decide +kernel
theorem dL_errors_143 : decode cL_errors 143 = .ok (.iconst 0, 1) := by decide +kernel
theorem dL_errors_144 : decode cL_errors 144 = .ok (.invokevirtual 39, 3) := by decide +kernel
theorem dL_errors_147 : decode cL_errors 147 = .ok (.bipush (-2), 2) := by decide +kernel
theorem dL_errors_149 : decode cL_errors 149 = .ok (.if_icmp .ne 273, 3) := by decide +kernel
theorem dL_errors_152 : decode cL_errors 152 = .ok (.aload_n 0, 1) := by decide +kernel
theorem dL_errors_153 : decode cL_errors 153 = .ok (.sipush 1000, 3) := by decide +kernel
theorem dL_errors_156 : decode cL_errors 156 = .ok (.iconst 1, 1) := by decide +kernel
theorem dL_errors_157 : decode cL_errors 157 = .ok (.invokevirtual 39, 3) := by decide +kernel
theorem dL_errors_160 : decode cL_errors 160 = .ok (.bipush (-2), 2) := by decide +kernel
theorem dL_errors_162 : decode cL_errors 162 = .ok (.if_icmp .ne 260, 3) := by decide +kernel
theorem dL_errors_165 : decode cL_errors 165 = .ok (.aload_n 0, 1) := by decide +kernel
theorem dL_errors_166 : decode cL_errors 166 = .ok (.iconst 1, 1) := by decide +kernel
theorem dL_errors_167 : decode cL_errors 167 = .ok (.sipush (-1000), 3) := by decide +kernel
theorem dL_errors_170 : decode cL_errors 170 = .ok (.invokevirtual 39, 3) := by decide +kernel
theorem dL_errors_173 : decode cL_errors 173 = .ok (.bipush (-2), 2) := by decide +kernel
theorem dL_errors_175 : decode cL_errors 175 = .ok (.if_icmp .ne 247, 3) := by decide +kernel
theorem dL_errors_178 : decode cL_errors 178 = .ok (.aload_n 0, 1) := by decide +kernel
theorem dL_errors_179 : decode cL_errors 179 = .ok (.iconst 0, 1) := by decide +kernel
theorem dL_errors_180 : decode cL_errors 180 = .ok (.invokevirtual 43, 3) := by decide +kernel
theorem dL_errors_183 : decode cL_errors 183 = .ok (.bipush (-2), 2) := by decide +kernel
theorem dL_errors_185 : decode cL_errors 185 = .ok (.if_icmp .ne 237, 3) := by decide +kernel
theorem dL_errors_188 : decode cL_errors 188 = .ok (.aload_n 0, 1) := by decide +kernel
theorem dL_errors_189 : decode cL_errors 189 = .ok (.sipush 10000, 3) := by decide +kernel
theorem dL_errors_192 : decode cL_errors 192 = .ok (.invokevirtual 43, 3) := by decide +kernel
theorem dL_errors_195 : decode cL_errors 195 = .ok (.bipush (-2), 2) := by decide +kernel
theorem dL_errors_197 : decode cL_errors 197 = .ok (.if_icmp .ne 225, 3) := by decide +kernel
theorem dL_errors_200 : decode cL_errors 200 = .ok (.aload_n 0, 1) := by decide +kernel
theorem dL_errors_201 : decode cL_errors 201 = .ok (.iconst 0, 1) := by decide +kernel
theorem dL_errors_202 : decode cL_errors 202 = .ok (.invokevirtual 46, 3) := by decide +kernel
theorem dL_errors_205 : decode cL_errors 205 = .ok (.bipush (-2), 2) := by decide +kernel
theorem dL_errors_207 : decode cL_errors 207 = .ok (.if_icmp .ne 215, 3) := by decide +kernel
theorem dL_errors_210 : decode cL_errors 210 = .ok (.aload_n 0, 1) := by decide +kernel
theorem dL_errors_211 : decode cL_errors 211 = .ok (.ldc 49, 2) := by decide +kernel
theorem dL_errors_213 : decode cL_errors 213 = .ok (.invokevirtual 46, 3) := by decide +kernel
theorem dL_errors_216 : decode cL_errors 216 = .ok (.bipush (-2), 2) := by decide +kernel
theorem dL_errors_218 : decode cL_errors 218 = .ok (.if_icmp .ne 204, 3) := by decide +kernel
theorem dL_errors_221 : decode cL_errors 221 = .ok (.aload_n 0, 1) := by decide +kernel
theorem dL_errors_222 : decode cL_errors 222 = .ok (.iload_n 1, 1) := by decide +kernel
theorem dL_errors_223 : decode cL_errors 223 = .ok (.invokevirtual 50, 3) := by decide +kernel
theorem dL_errors_226 : decode cL_errors 226 = .ok (.iconst (-1), 1) := by decide +kernel
theorem dL_errors_227 : decode cL_errors 227 = .ok (.if_icmp .ne 195, 3) := by decide +kernel
theorem dL_errors_230 : decode cL_errors 230 = .ok (.aload_n 0, 1) := by decide +kernel
theorem dL_errors_231 : decode cL_errors 231 = .ok (.iconst 0, 1) := by decide +kernel
theorem dL_errors_232 : decode cL_errors 232 = .ok (.invokevirtual 53, 3) := by decide +kernel
theorem dL_errors_235 : decode cL_errors 235 = .ok (.bipush (-2), 2) := by decide +kernel
theorem dL_errors_237 : decode cL_errors 237 = .ok (.if_icmp .ne 185, 3) := by decide +kernel
theorem dL_errors_240 : decode cL_errors 240 = .ok (.aload_n 0, 1) := by decide +kernel
theorem dL_errors_241 : decode cL_errors 241 = .ok (.sipush 1000, 3) := by decide +kernel
theorem dL_errors_244 : decode cL_errors 244 = .ok (.invokevirtual 53, 3) := by decide +kernel
theorem dL_errors_247 : decode cL_errors 247 = .ok (.bipush (-2), 2) := by decide +kernel
theorem dL_errors_249 : decode cL_errors 249 = .ok (.if_icmp .ne 173, 3) := by decide +kernel
theorem dL_errors_252 : decode cL_errors 252 = .ok (.aload_n 0, 1) := by decide +kernel
theorem dL_errors_253 : decode cL_errors 253 = .ok (.iconst 2, 1) := by decide +kernel
theorem dL_errors_254 : decode cL_errors 254 = .ok (.iconst (-1), 1) := by decide +kernel
theorem dL_errors_255 : decode cL_errors 255 = .ok (.invokevirtual 56, 3) := by decide +kernel
theorem dL_errors_258 : decode cL_errors 258 = .ok (.iconst (-1), 1) := by decide +kernel
theorem dL_errors_259 : decode cL_errors 259 = .ok (.if_icmp .ne 163, 3) := by decide +kernel
theorem dL_errors_262 : decode cL_errors 262 = .ok (.aload_n 0, 1) := by decide +kernel
theorem dL_errors_263 : decode cL_errors 263 = .ok (.iconst 0, 1) := by decide +kernel
theorem dL_errors_264 : decode cL_errors 264 = .ok (.iconst (-1), 1) := by decide +kernel
theorem dL_errors_265 : decode cL_errors 265 = .ok (.invokevirtual 56, 3) := by decide +kernel
theorem dL_errors_268 : decode cL_errors 268 = .ok (.bipush (-2), 2) := by decide +kernel
theorem dL_errors_270 : decode cL_errors 270 = .ok (.if_icmp .ne 152, 3) := by decide +kernel
theorem dL_errors_273 : decode cL_errors 273 = .ok (.aload_n 0, 1) := by decide +kernel
theorem dL_errors_274 : decode cL_errors 274 = .ok (.iconst 1, 1) := by decide +kernel
theorem dL_errors_275 : decode cL_errors 275 = .ok (.ldc 49, 2) := by decide +kernel
theorem dL_errors_277 : decode cL_errors 277 = .ok (.invokevirtual 56, 3) := by decide +kernel
theorem dL_errors_280 : decode cL_errors 280 = .ok (.bipush (-2), 2) := by decide +kernel
theorem dL_errors_282 : decode cL_errors 282 = .ok (.if_icmp .ne 140, 3) := by decide +kernel
theorem dL_errors_285 : decode cL_errors 285 = .ok (.aload_n 0, 1) := by decide +kernel
theorem dL_errors_286 : decode cL_errors 286 = .ok (.iconst 0, 1) := by decide +kernel
theorem dL_errors_287 : decode cL_errors 287 = .ok (.iconst 1, 1) := by decide +kernel
theorem dL_errors_288 : decode cL_errors 288 = .ok (.invokevirtual 59, 3) := by decide +kernel
theorem dL_errors_291 : decode cL_errors 291 = .ok (.bipush (-2), 2) := by decide +kernel
theorem dL_errors_293 : decode cL_errors 293 = .ok (.if_icmp .ne 129, 3) := by decide +kernel
theorem dL_errors_296 : decode cL_errors 296 = .ok (.aload_n 0, 1) := by decide +kernel
theorem dL_errors_297 : decode cL_errors 297 = .ok (.iconst 1, 1) := by decide +kernel
theorem dL_errors_298 : decode cL_errors 298 = .ok (.iconst 0, 1) := by decide +kernel
theorem dL_errors_299 : decode cL_errors 299 = .ok (.invokevirtual 59, 3) := by decide +kernel
theorem dL_errors_302 : decode cL_errors 302 = .ok (.bipush (-2), 2) := by decide +kernel
theorem dL_errors_304 : decode cL_errors 304 = .ok (.if_icmp .ne 118, 3) := by decide +kernel
theorem dL_errors_307 : decode cL_errors 307 = .ok (.aload_n 0, 1) := by decide +kernel
theorem dL_errors_308 : decode cL_errors 308 = .ok (.iconst 0, 1) := by decide +kernel
theorem dL_errors_309 : decode cL_errors 309 = .ok (.invokevirtual 62, 3) := by decide +kernel
theorem dL_errors_312 : decode cL_errors 312 = .ok (.bipush (-2), 2) := by decide +kernel
theorem dL_errors_314 : decode cL_errors 314 = .ok (.if_icmp .ne 108, 3) := by decide +kernel
theorem dL_errors_317 : decode cL_errors 317 = .ok (.aload_n 0, 1) := by decide +kernel
theorem dL_errors_318 : decode cL_errors 318 = .ok (.ldc 49, 2) := by decide +kernel
theorem dL_errors_320 : decode cL_errors 320 = .ok (.invokevirtual 62, 3) := by decide +kernel
theorem dL_errors_323 : decode cL_errors 323 = .ok (.bipush (-2), 2) := by decide +kernel
theorem dL_errors_325 : decode cL_errors 325 = .ok (.if_icmp .ne 97, 3) := by decide +kernel
theorem dL_errors_328 : decode cL_errors 328 = .ok (.aload_n 0, 1) := by decide +kernel
theorem dL_errors_329 : decode cL_errors 329 = .ok (.iconst 0, 1) := by decide +kernel
theorem dL_errors_330 : decode cL_errors 330 = .ok (.lconst 0, 1) := by decide +kernel
theorem dL_errors_331 : decode cL_errors 331 = .ok (.invokevirtual 65, 3) := by decide +kernel
theorem dL_errors_334 : decode cL_errors 334 = .ok (.bipush (-2), 2) := by decide +kernel
theorem dL_errors_336 : decode cL_errors 336 = .ok (.if_icmp .ne 86, 3) := by decide +kernel
theorem dL_errors_339 : decode cL_errors 339 = .ok (.aload_n 0, 1) := by decide +kernel
theorem dL_errors_340 : decode cL_errors 340 = .ok (.iconst 5, 1) := by decide +kernel
theorem dL_errors_341 : decode cL_errors 341 = .ok (.lconst 0, 1) := by decide +kernel
theorem dL_errors_342 : decode cL_errors 342 = .ok (.invokevirtual 65, 3) := by decide +kernel
theorem dL_errors_345 : decode cL_errors 345 = .ok (.bipush (-2), 2) := by decide +kernel
theorem dL_errors_347 : decode cL_errors 347 = .ok (.if_icmp .ne 75, 3) := by decide +kernel
theorem dL_errors_350 : decode cL_errors 350 = .ok (.aload_n 0, 1) := by decide +kernel
theorem dL_errors_351 : decode cL_errors 351 = .ok (.iconst 1, 1) := by decide +kernel
theorem dL_errors_352 : decode cL_errors 352 = .ok (.ldc2_w 69, 3) := by decide +kernel
theorem dL_errors_355 : decode cL_errors 355 = .ok (.invokevirtual 65, 3) := by decide +kernel
theorem dL_errors_358 : decode cL_errors 358 = .ok (.bipush (-2), 2) := by decide +kernel
theorem dL_errors_360 : decode cL_errors 360 = .ok (.if_icmp .ne 62, 3) := by decide +kernel
theorem dL_errors_363 : decode cL_errors 363 = .ok (.aload_n 0, 1) := by decide +kernel
theorem dL_errors_364 : decode cL_errors 364 = .ok (.iconst 1, 1) := by decide +kernel
theorem dL_errors_365 : decode cL_errors 365 = .ok (.ldc2_w 71, 3) := by decide +kernel
theorem dL_errors_368 : decode cL_errors 368 = .ok (.invokevirtual 65, 3) := by decide +kernel
theorem dL_errors_371 : decode cL_errors 371 = .ok (.bipush (-2), 2) := by decide +kernel
theorem dL_errors_373 : decode cL_errors 373 = .ok (.if_icmp .ne 49, 3) := by decide +kernel
theorem dL_errors_376 : decode cL_errors 376 = .ok (.aload_n 0, 1) := by decide +kernel
theorem dL_errors_377 : decode cL_errors 377 = .ok (.lconst 1, 1) := by decide +kernel
theorem dL_errors_378 : decode cL_errors 378 = .ok (.iconst 0, 1) := by decide +kernel
theorem dL_errors_379 : decode cL_errors 379 = .ok (.invokevirtual 73, 3) := by decide +kernel
theorem dL_errors_382 : decode cL_errors 382 = .ok (.bipush (-2), 2) := by decide +kernel
theorem dL_errors_384 : decode cL_errors 384 = .ok (.if_icmp .ne 38, 3) := by decide +kernel
theorem dL_errors_387 : decode cL_errors 387 = .ok (.aload_n 0, 1) := by decide +kernel
theorem dL_errors_388 : decode cL_errors 388 = .ok (.lconst 1, 1) := by decide +kernel
theorem dL_errors_389 : decode cL_errors 389 = .ok (.sipush 501, 3) := by decide +kernel
theorem dL_errors_392 : decode cL_errors 392 = .ok (.invokevirtual 73, 3) := by decide +kernel
theorem dL_errors_395 : decode cL_errors 395 = .ok (.bipush (-2), 2) := by decide +kernel
theorem dL_errors_397 : decode cL_errors 397 = .ok (.if_icmp .ne 25, 3) := by decide +kernel
theorem dL_errors_400 : decode cL_errors 400 = .ok (.aload_n 0, 1) := by decide +kernel
theorem dL_errors_401 : decode cL_errors 401 = .ok (.iconst 2, 1) := by decide +kernel
theorem dL_errors_402 : decode cL_errors 402 = .ok (.invokevirtual 77, 3) := by decide +kernel
theorem dL_errors_405 : decode cL_errors 405 = .ok (.iconst (-1), 1) := by decide +kernel
theorem dL_errors_406 : decode cL_errors 406 = .ok (.if_icmp .ne 16, 3) := by decide +kernel
theorem dL_errors_409 : decode cL_errors 409 = .ok (.aload_n 0, 1) := by decide +kernel
theorem dL_errors_410 : decode cL_errors 410 = .ok (.iconst (-1), 1) := by decide +kernel
theorem dL_errors_411 : decode cL_errors 411 = .ok (.invokevirtual 80, 3) := by decide +kernel
theorem dL_errors_414 : decode cL_errors 414 = .ok (.iconst (-1), 1) := by decide +kernel
theorem dL_errors_415 : decode cL_errors 415 = .ok (.if_icmp .ne 7, 3) := by decide +kernel
theorem dL_errors_418 : decode cL_errors 418 = .ok (.iconst 1, 1) := by decide +kernel
theorem dL_errors_419 : decode cL_errors 419 = .ok (.goto 4, 3) := by decide +kernel
theorem dL_errors_422 : decode cL_errors 422 = .ok (.iconst 0, 1) := by decide +kernel
theorem dL_errors_423 : decode cL_errors 423 = .ok (.istore_n 2, 1) := by decide +kernel
theorem dL_errors_424 : decode cL_errors 424 = .ok (.aload_n 0, 1) := by decide +kernel
theorem dL_errors_425 : decode cL_errors 425 = .ok (.invokevirtual 83, 3) := by decide +kernel
theorem dL_errors_428 : decode cL_errors 428 = .ok (.bipush (-9), 2) := by decide +kernel
theorem dL_errors_430 : decode cL_errors 430 = .ok (.if_icmp .ne 55, 3) := by decide +kernel
theorem dL_errors_433 : decode cL_errors 433 = .ok (.iload_n 2, 1) := by decide +kernel
theorem dL_errors_434 : decode cL_errors 434 = .ok (.ifCond .eq 46, 3) := by decide +kernel
theorem dL_errors_437 : decode cL_errors 437 = .ok (.aload_n 0, 1) := by decide +kernel
theorem dL_errors_438 : decode cL_errors 438 = .ok (.invokevirtual 86, 3) := by decide +kernel
theorem dL_errors_441 : decode cL_errors 441 = .ok (.bipush (-3), 2) := by decide +kernel
theorem dL_errors_443 : decode cL_errors 443 = .ok (.if_icmp .ne 37, 3) := by decide +kernel
theorem dL_errors_446 : decode cL_errors 446 = .ok (.iload_n 1, 1) := by decide +kernel
theorem dL_errors_447 : decode cL_errors 447 = .ok (.ifCond .gt 29, 3) := by decide +kernel
theorem dL_errors_450 : decode cL_errors 450 = .ok (.aload_n 0, 1) := by decide +kernel
theorem dL_errors_451 : decode cL_errors 451 = .ok (.invokevirtual 89, 3) := by decide +kernel
theorem dL_errors_454 : decode cL_errors 454 = .ok (.bipush (-3), 2) := by decide +kernel
theorem dL_errors_456 : decode cL_errors 456 = .ok (.if_icmp .ne 24, 3) := by decide +kernel
theorem dL_errors_459 : decode cL_errors 459 = .ok (.aload_n 0, 1) := by decide +kernel
theorem dL_errors_460 : decode cL_errors 460 = .ok (.iconst 5, 1) := by decide +kernel
theorem dL_errors_461 : decode cL_errors 461 = .ok (.invokevirtual 46, 3) := by decide +kernel
theorem dL_errors_464 : decode cL_errors 464 = .ok (.bipush (-3), 2) := by decide +kernel
theorem dL_errors_466 : decode cL_errors 466 = .ok (.if_icmp .ne 14, 3) := by decide +kernel
theorem dL_errors_469 : decode cL_errors 469 = .ok (.aload_n 0, 1) := by decide +kernel
theorem dL_errors_470 : decode cL_errors 470 = .ok (.invokevirtual 92, 3) := by decide +kernel
theorem dL_errors_473 : decode cL_errors 473 = .ok (.ifCond .ne 7, 3) := by decide +kernel
theorem dL_errors_476 : decode cL_errors 476 = .ok (.iconst 1, 1) := by decide +kernel
theorem dL_errors_477 : decode cL_errors 477 = .ok (.goto 4, 3) := by decide +kernel
theorem dL_errors_480 : decode cL_errors 480 = .ok (.iconst 0, 1) := by decide +kernel
theorem dL_errors_481 : decode cL_errors 481 = .ok (.istore_n 2, 1) := by decide +kernel
theorem dL_errors_482 : decode cL_errors 482 = .ok (.goto 37, 3) := by decide +kernel
theorem dL_errors_485 : decode cL_errors 485 = .ok (.iload_n 2, 1) := by decide +kernel
theorem dL_errors_486 : decode cL_errors 486 = .ok (.ifCond .eq 31, 3) := by decide +kernel
theorem dL_errors_489 : decode cL_errors 489 = .ok (.aload_n 0, 1) := by decide +kernel
theorem dL_errors_490 : decode cL_errors 490 = .ok (.iconst 5, 1) := by decide +kernel
theorem dL_errors_491 : decode cL_errors 491 = .ok (.invokevirtual 33, 3) := by decide +kernel
theorem dL_errors_494 : decode cL_errors 494 = .ok (.bipush (-3), 2) := by decide +kernel
theorem dL_errors_496 : decode cL_errors 496 = .ok (.if_icmp .ne 21, 3) := by decide +kernel
theorem dL_errors_499 : decode cL_errors 499 = .ok (.aload_n 0, 1) := by decide +kernel
theorem dL_errors_500 : decode cL_errors 500 = .ok (.iconst 0, 1) := by decide +kernel
theorem dL_errors_501 : decode cL_errors 501 = .ok (.invokevirtual 50, 3) := by decide +kernel
theorem dL_errors_504 : decode cL_errors 504 = .ok (.bipush (-3), 2) := by decide +kernel
theorem dL_errors_506 : decode cL_errors 506 = .ok (.if_icmp .ne 11, 3) := by decide +kernel
theorem dL_errors_509 : decode cL_errors 509 = .ok (.iload_n 1, 1) := by decide +kernel
theorem dL_errors_510 : decode cL_errors 510 = .ok (.ifCond .le 7, 3) := by decide +kernel
theorem dL_errors_513 : decode cL_errors 513 = .ok (.iconst 1, 1) := by decide +kernel
theorem dL_errors_514 : decode cL_errors 514 = .ok (.goto 4, 3) := by decide +kernel
theorem dL_errors_517 : decode cL_errors 517 = .ok (.iconst 0, 1) := by decide +kernel
theorem dL_errors_518 : decode cL_errors 518 = .ok (.istore_n 2, 1) := by decide +kernel
theorem dL_errors_519 : decode cL_errors 519 = .ok (.iload_n 2, 1) := by decide +kernel
theorem dL_errors_520 : decode cL_errors 520 = .ok (.ifCond .eq 34, 3) := by decide +kernel
theorem dL_errors_523 : decode cL_errors 523 = .ok (.iload_n 1, 1) := by decide +kernel
theorem dL_errors_524 : decode cL_errors 524 = .ok (.bipush 8, 2) := by decide +kernel
theorem dL_errors_526 : decode cL_errors 526 = .ok (.if_icmp .lt 24, 3) := by decide +kernel
theorem dL_errors_529 : decode cL_errors 529 = .ok (.aload_n 0, 1) := by decide +kernel
theorem dL_errors_530 : decode cL_errors 530 = .ok (.iconst 1, 1) := by decide +kernel
theorem dL_errors_531 : decode cL_errors 531 = .ok (.iconst 0, 1) := by decide +kernel
theorem dL_errors_532 : decode cL_errors 532 = .ok (.invokevirtual 39, 3) := by decide +kernel
theorem dL_errors_535 : decode cL_errors 535 = .ok (.bipush (-4), 2) := by decide +kernel
theorem dL_errors_537 : decode cL_errors 537 = .ok (.if_icmp .ne 17, 3) := by decide +kernel
theorem dL_errors_540 : decode cL_errors 540 = .ok (.aload_n 0, 1) := by decide +kernel
theorem dL_errors_541 : decode cL_errors 541 = .ok (.iconst 1, 1) := by decide +kernel
theorem dL_errors_542 : decode cL_errors 542 = .ok (.invokevirtual 43, 3) := by decide +kernel
theorem dL_errors_545 : decode cL_errors 545 = .ok (.bipush (-4), 2) := by decide +kernel
theorem dL_errors_547 : decode cL_errors 547 = .ok (.if_icmp .ne 7, 3) := by decide +kernel
theorem dL_errors_550 : decode cL_errors 550 = .ok (.iconst 1, 1) := by decide +kernel
theorem dL_errors_551 : decode cL_errors 551 = .ok (.goto 4, 3) := by decide +kernel
theorem dL_errors_554 : decode cL_errors 554 = .ok (.iconst 0, 1) := by decide +kernel
theorem dL_errors_555 : decode cL_errors 555 = .ok (.ireturn, 1) := by decide +kernel
theorem dL_digits_0 : decode cL_digits 0 = .ok (.iconst 0, 1) := by decide +kernel
theorem dL_digits_1 : decode cL_digits 1 = .ok (.istore_n 3, 1) := by decide +kernel
theorem dL_digits_2 : decode cL_digits 2 = .ok (.iload_n 2, 1) := by decide +kernel
theorem dL_digits_3 : decode cL_digits 3 = .ok (.iconst 4, 1) := by decide +kernel
theorem dL_digits_4 : decode cL_digits 4 = .ok (.if_icmp .ne 9, 3) := by decide +kernel
theorem dL_digits_7 : decode cL_digits 7 = .ok (.sipush 1000, 3) := by decide +kernel
theorem dL_digits_10 : decode cL_digits 10 = .ok (.goto 5, 3) := by decide +kernel
theorem dL_digits_13 : decode cL_digits 13 = .ok (.bipush 100, 2) := by decide +kernel
theorem dL_digits_15 : decode cL_digits 15 = .ok (.istore 4, 2) := by decide +kernel
theorem dL_digits_17 : decode cL_digits 17 = .ok (.iload 4, 2) := by decide +kernel
theorem dL_digits_19 : decode cL_digits 19 = .ok (.ifCond .le 30, 3) := by decide +kernel
theorem dL_digits_22 : decode cL_digits 22 = .ok (.iload_n 3, 1) := by decide +kernel
theorem dL_digits_23 : decode cL_digits 23 = .ok (.aload_n 0, 1) := by decide +kernel
theorem dL_digits_24 : decode cL_digits 24 = .ok (.bipush 48, 2) := by decide +kernel
theorem dL_digits_26 : decode cL_digits 26 = .ok (.iload_n 1, 1) := by decide +kernel
theorem dL_digits_27 : decode cL_digits 27 = .ok (.iload 4, 2) := by decide +kernel
theorem dL_digits_29 : decode cL_digits 29 = .ok (.idiv, 1) := by decide +kernel
theorem dL_digits_30 : decode cL_digits 30 = .ok (.bipush 10, 2) := by decide +kernel
theorem dL_digits_32 : decode cL_digits 32 = .ok (.irem, 1) := by decide +kernel
theorem dL_digits_33 : decode cL_digits 33 = .ok (.iadd, 1) := by decide +kernel
theorem dL_digits_34 : decode cL_digits 34 = .ok (.invokevirtual 15, 3) := by decide +kernel
theorem dL_digits_37 : decode cL_digits 37 = .ok (.iadd, 1) := by decide +kernel
theorem dL_digits_38 : decode cL_digits 38 = .ok (.istore_n 3, 1) := by decide +kernel
theorem dL_digits_39 : decode cL_digits 39 = .ok (.iload 4, 2) := by decide +kernel
theorem dL_digits_41 : decode cL_digits 41 = .ok (.bipush 10, 2) := by decide +kernel
theorem dL_digits_43 : decode cL_digits 43 = .ok (.idiv, 1) := by decide +kernel
theorem dL_digits_44 : decode cL_digits 44 = .ok (.istore 4, 2) := by decide +kernel
theorem dL_digits_46 : decode cL_digits 46 = .ok (.goto (-29), 3) := by decide +kernel
theorem dL_digits_49 : decode cL_digits 49 = .ok (.iload_n 3, 1) := by decide +kernel
theorem dL_digits_50 : decode cL_digits 50 = .ok (.ireturn, 1) := by decide +kernel
theorem dL_load_0 : decode cL_load 0 = .ok (.aload_n 0, 1) := by decide +kernel
theorem dL_load_1 : decode cL_load 1 = .ok (.invokevirtual 95, 3) := by decide +kernel
theorem dL_load_4 : decode cL_load 4 = .ok (.aload_n 0, 1) := by decide +kernel
theorem dL_load_5 : decode cL_load 5 = .ok (.bipush 97, 2) := by decide +kernel
theorem dL_load_7 : decode cL_load 7 = .ok (.invokevirtual 15, 3) := by decide +kernel
theorem dL_load_10 : decode cL_load 10 = .ok (.iadd, 1) := by decide +kernel
theorem dL_load_11 : decode cL_load 11 = .ok (.aload_n 0, 1) := by decide +kernel
theorem dL_load_12 : decode cL_load 12 = .ok (.iload_n 1, 1) := by decide +kernel
theorem dL_load_13 : decode cL_load 13 = .ok (.sipush 999, 3) := by decide +kernel
theorem dL_load_16 : decode cL_load 16 = .ok (.irem, 1) := by decide +kernel
theorem dL_load_17 : decode cL_load 17 = .ok (.iload_n 1, 1) := by decide +kernel
theorem dL_load_18 : decode cL_load 18 = .ok (.bipush 43, 2) := by decide +kernel
theorem dL_load_20 : decode cL_load 20 = .ok (.irem, 1) := by decide +kernel
theorem dL_load_21 : decode cL_load 21 = .ok (.ifCond .ne 7, 3) := by decide +kernel
theorem dL_load_24 : decode cL_load 24 = .ok (.iconst 0, 1) := by decide +kernel
theorem dL_load_25 : decode cL_load 25 = .ok (.goto 4, 3) := by decide +kernel
theorem dL_load_28 : decode cL_load 28 = .ok (.iconst 1, 1) := by decide +kernel
theorem dL_load_29 : decode cL_load 29 = .ok (.iadd, 1) := by decide +kernel
theorem dL_load_30 : decode cL_load 30 = .ok (.iconst 3, 1) := by decide +kernel
theorem dL_load_31 : decode cL_load 31 = .ok (.invokestatic 98, 3) := by decide +kernel
theorem dL_load_34 : decode cL_load 34 = .ok (.iadd, 1) := by decide +kernel
theorem dL_load_35 : decode cL_load 35 = .ok (.aload_n 0, 1) := by decide +kernel
theorem dL_load_36 : decode cL_load 36 = .ok (.bipush 118, 2) := by decide +kernel
theorem dL_load_38 : decode cL_load 38 = .ok (.invokevirtual 15, 3) := by decide +kernel
theorem dL_load_41 : decode cL_load 41 = .ok (.iadd, 1) := by decide +kernel
theorem dL_load_42 : decode cL_load 42 = .ok (.aload_n 0, 1) := by decide +kernel
theorem dL_load_43 : decode cL_load 43 = .ok (.iconst 1, 1) := by decide +kernel
theorem dL_load_44 : decode cL_load 44 = .ok (.iload_n 1, 1) := by decide +kernel
theorem dL_load_45 : decode cL_load 45 = .ok (.sipush 999, 3) := by decide +kernel
theorem dL_load_48 : decode cL_load 48 = .ok (.idiv, 1) := by decide +kernel
theorem dL_load_49 : decode cL_load 49 = .ok (.sipush 999, 3) := by decide +kernel
theorem dL_load_52 : decode cL_load 52 = .ok (.irem, 1) := by decide +kernel
theorem dL_load_53 : decode cL_load 53 = .ok (.iadd, 1) := by decide +kernel
theorem dL_load_54 : decode cL_load 54 = .ok (.iconst 3, 1) := by decide +kernel
theorem dL_load_55 : decode cL_load 55 = .ok (.invokestatic 98, 3) := by decide +kernel
theorem dL_load_58 : decode cL_load 58 = .ok (.iadd, 1) := by decide +kernel
theorem dL_load_59 : decode cL_load 59 = .ok (.istore_n 3, 1) := by decide +kernel
theorem dL_load_60 : decode cL_load 60 = .ok (.iload_n 2, 1) := by decide +kernel
theorem dL_load_61 : decode cL_load 61 = .ok (.istore 4, 2) := by decide +kernel
theorem dL_load_63 : decode cL_load 63 = .ok (.iconst 0, 1) := by decide +kernel
theorem dL_load_64 : decode cL_load 64 = .ok (.istore 5, 2) := by decide +kernel
theorem dL_load_66 : decode cL_load 66 = .ok (.iload 5, 2) := by decide +kernel
theorem dL_load_68 : decode cL_load 68 = .ok (.iload_n 2, 1) := by decide +kernel
theorem dL_load_69 : decode cL_load 69 = .ok (.bipush 6, 2) := by decide +kernel
theorem dL_load_71 : decode cL_load 71 = .ok (.irem, 1) := by decide +kernel
theorem dL_load_72 : decode cL_load 72 = .ok (.if_icmp .ge 157, 3) := by decide +kernel
theorem dL_load_75 : decode cL_load 75 = .ok (.iload 4, 2) := by decide +kernel
theorem dL_load_77 : decode cL_load 77 = .ok (.iconst 4, 1) := by decide +kernel
theorem dL_load_78 : decode cL_load 78 = .ok (.irem, 1) := by decide +kernel
theorem dL_load_79 : decode cL_load 79 = .ok (.ifCond .ne 31, 3) := by decide +kernel
theorem dL_load_82 : decode cL_load 82 = .ok (.iload_n 3, 1) := by decide +kernel
theorem dL_load_83 : decode cL_load 83 = .ok (.aload_n 0, 1) := by decide +kernel
theorem dL_load_84 : decode cL_load 84 = .ok (.bipush 119, 2) := by decide +kernel
theorem dL_load_86 : decode cL_load 86 = .ok (.invokevirtual 15, 3) := by decide +kernel
theorem dL_load_89 : decode cL_load 89 = .ok (.aload_n 0, 1) := by decide +kernel
theorem dL_load_90 : decode cL_load 90 = .ok (.iconst 1, 1) := by decide +kernel
theorem dL_load_91 : decode cL_load 91 = .ok (.iload 4, 2) := by decide +kernel
theorem dL_load_93 : decode cL_load 93 = .ok (.iconst 4, 1) := by decide +kernel
theorem dL_load_94 : decode cL_load 94 = .ok (.idiv, 1) := by decide +kernel
theorem dL_load_95 : decode cL_load 95 = .ok (.sipush 900, 3) := by decide +kernel
theorem dL_load_98 : decode cL_load 98 = .ok (.irem, 1) := by decide +kernel
theorem dL_load_99 : decode cL_load 99 = .ok (.iadd, 1) := by decide +kernel
theorem dL_load_100 : decode cL_load 100 = .ok (.iconst 4, 1) := by decide +kernel
theorem dL_load_101 : decode cL_load 101 = .ok (.invokestatic 98, 3) := by decide +kernel
theorem dL_load_104 : decode cL_load 104 = .ok (.iadd, 1) := by decide +kernel
theorem dL_load_105 : decode cL_load 105 = .ok (.iadd, 1) := by decide +kernel
theorem dL_load_106 : decode cL_load 106 = .ok (.istore_n 3, 1) := by decide +kernel
theorem dL_load_107 : decode cL_load 107 = .ok (.goto 101, 3) := by decide +kernel
theorem dL_load_110 : decode cL_load 110 = .ok (.iload 4, 2) := by decide +kernel
theorem dL_load_112 : decode cL_load 112 = .ok (.bipush 8, 2) := by decide +kernel
theorem dL_load_114 : decode cL_load 114 = .ok (.irem, 1) := by decide +kernel
theorem dL_load_115 : decode cL_load 115 = .ok (.iconst 1, 1) := by decide +kernel
theorem dL_load_116 : decode cL_load 116 = .ok (.if_icmp .ne 9, 3) := by decide +kernel
theorem dL_load_119 : decode cL_load 119 = .ok (.sipush 1000, 3) := by decide +kernel
theorem dL_load_122 : decode cL_load 122 = .ok (.goto 5, 3) := by decide +kernel
theorem dL_load_125 : decode cL_load 125 = .ok (.bipush 40, 2) := by decide +kernel
theorem dL_load_127 : decode cL_load 127 = .ok (.istore 6, 2) := by decide +kernel
theorem dL_load_129 : decode cL_load 129 = .ok (.iload_n 3, 1) := by decide +kernel
theorem dL_load_130 : decode cL_load 130 = .ok (.aload_n 0, 1) := by decide +kernel
theorem dL_load_131 : decode cL_load 131 = .ok (.bipush 109, 2) := by decide +kernel
theorem dL_load_133 : decode cL_load 133 = .ok (.invokevirtual 15, 3) := by decide +kernel
theorem dL_load_136 : decode cL_load 136 = .ok (.aload_n 0, 1) := by decide +kernel
theorem dL_load_137 : decode cL_load 137 = .ok (.iload 4, 2) := by decide +kernel
theorem dL_load_139 : decode cL_load 139 = .ok (.iconst 4, 1) := by decide +kernel
theorem dL_load_140 : decode cL_load 140 = .ok (.idiv, 1) := by decide +kernel
theorem dL_load_141 : decode cL_load 141 = .ok (.iconst 2, 1) := by decide +kernel
theorem dL_load_142 : decode cL_load 142 = .ok (.irem, 1) := by decide +kernel
theorem dL_load_143 : decode cL_load 143 = .ok (.ifCond .ne 8, 3) := by decide +kernel
theorem dL_load_146 : decode cL_load 146 = .ok (.bipush 43, 2) := by decide +kernel
theorem dL_load_148 : decode cL_load 148 = .ok (.goto 5, 3) := by decide +kernel
theorem dL_load_151 : decode cL_load 151 = .ok (.bipush 45, 2) := by decide +kernel
theorem dL_load_153 : decode cL_load 153 = .ok (.invokevirtual 15, 3) := by decide +kernel
theorem dL_load_156 : decode cL_load 156 = .ok (.iadd, 1) := by decide +kernel
theorem dL_load_157 : decode cL_load 157 = .ok (.aload_n 0, 1) := by decide +kernel
theorem dL_load_158 : decode cL_load 158 = .ok (.iload 4, 2) := by decide +kernel
theorem dL_load_160 : decode cL_load 160 = .ok (.bipush 8, 2) := by decide +kernel
theorem dL_load_162 : decode cL_load 162 = .ok (.idiv, 1) := by decide +kernel
theorem dL_load_163 : decode cL_load 163 = .ok (.iload 6, 2) := by decide +kernel
theorem dL_load_165 : decode cL_load 165 = .ok (.irem, 1) := by decide +kernel
theorem dL_load_166 : decode cL_load 166 = .ok (.iconst 3, 1) := by decide +kernel
theorem dL_load_167 : decode cL_load 167 = .ok (.invokestatic 98, 3) := by decide +kernel
theorem dL_load_170 : decode cL_load 170 = .ok (.iadd, 1) := by decide +kernel
theorem dL_load_171 : decode cL_load 171 = .ok (.aload_n 0, 1) := by decide +kernel
theorem dL_load_172 : decode cL_load 172 = .ok (.iload 4, 2) := by decide +kernel
theorem dL_load_174 : decode cL_load 174 = .ok (.iconst 5, 1) := by decide +kernel
theorem dL_load_175 : decode cL_load 175 = .ok (.idiv, 1) := by decide +kernel
theorem dL_load_176 : decode cL_load 176 = .ok (.iconst 2, 1) := by decide +kernel
theorem dL_load_177 : decode cL_load 177 = .ok (.irem, 1) := by decide +kernel
theorem dL_load_178 : decode cL_load 178 = .ok (.ifCond .ne 8, 3) := by decide +kernel
theorem dL_load_181 : decode cL_load 181 = .ok (.bipush 43, 2) := by decide +kernel
theorem dL_load_183 : decode cL_load 183 = .ok (.goto 5, 3) := by decide +kernel
theorem dL_load_186 : decode cL_load 186 = .ok (.bipush 45, 2) := by decide +kernel
theorem dL_load_188 : decode cL_load 188 = .ok (.invokevirtual 15, 3) := by decide +kernel
theorem dL_load_191 : decode cL_load 191 = .ok (.iadd, 1) := by decide +kernel
theorem dL_load_192 : decode cL_load 192 = .ok (.aload_n 0, 1) := by decide +kernel
theorem dL_load_193 : decode cL_load 193 = .ok (.iload 4, 2) := by decide +kernel
theorem dL_load_195 : decode cL_load 195 = .ok (.bipush 11, 2) := by decide +kernel
theorem dL_load_197 : decode cL_load 197 = .ok (.idiv, 1) := by decide +kernel
theorem dL_load_198 : decode cL_load 198 = .ok (.iload 6, 2) := by decide +kernel
theorem dL_load_200 : decode cL_load 200 = .ok (.irem, 1) := by decide +kernel
theorem dL_load_201 : decode cL_load 201 = .ok (.iconst 3, 1) := by decide +kernel
theorem dL_load_202 : decode cL_load 202 = .ok (.invokestatic 98, 3) := by decide +kernel
theorem dL_load_205 : decode cL_load 205 = .ok (.iadd, 1) := by decide +kernel
theorem dL_load_206 : decode cL_load 206 = .ok (.iadd, 1) := by decide +kernel
theorem dL_load_207 : decode cL_load 207 = .ok (.istore_n 3, 1) := by decide +kernel
theorem dL_load_208 : decode cL_load 208 = .ok (.iload 4, 2) := by decide +kernel
theorem dL_load_210 : decode cL_load 210 = .ok (.bipush 7, 2) := by decide +kernel
theorem dL_load_212 : decode cL_load 212 = .ok (.idiv, 1) := by decide +kernel
theorem dL_load_213 : decode cL_load 213 = .ok (.ldc 102, 2) := by decide +kernel
theorem dL_load_215 : decode cL_load 215 = .ok (.iload 5, 2) := by decide +kernel
theorem dL_load_217 : decode cL_load 217 = .ok (.iconst 1, 1) := by decide +kernel
theorem dL_load_218 : decode cL_load 218 = .ok (.iadd, 1) := by decide +kernel
theorem dL_load_219 : decode cL_load 219 = .ok (.imul, 1) := by decide +kernel
theorem dL_load_220 : decode cL_load 220 = .ok (.iadd, 1) := by decide +kernel
theorem dL_load_221 : decode cL_load 221 = .ok (.istore 4, 2) := by decide +kernel
theorem dL_load_223 : decode cL_load 223 = .ok (.iinc 5 1, 3) := by decide +kernel
theorem dL_load_226 : decode cL_load 226 = .ok (.goto (-160), 3) := by decide +kernel
theorem dL_load_229 : decode cL_load 229 = .ok (.iload_n 3, 1) := by decide +kernel
theorem dL_load_230 : decode cL_load 230 = .ok (.iload_n 1, 1) := by decide +kernel
theorem dL_load_231 : decode cL_load 231 = .ok (.bipush 41, 2) := by decide +kernel
theorem dL_load_233 : decode cL_load 233 = .ok (.irem, 1) := by decide +kernel
theorem dL_load_234 : decode cL_load 234 = .ok (.ifCond .ne 18, 3) := by decide +kernel
theorem dL_load_237 : decode cL_load 237 = .ok (.aload_n 0, 1) := by decide +kernel
theorem dL_load_238 : decode cL_load 238 = .ok (.ldc 103, 2) := by decide +kernel
theorem dL_load_240 : decode cL_load 240 = .ok (.iload_n 2, 1) := by decide +kernel
theorem dL_load_241 : decode cL_load 241 = .ok (.iconst 4, 1) := by decide +kernel
theorem dL_load_242 : decode cL_load 242 = .ok (.irem, 1) := by decide +kernel
theorem dL_load_243 : decode cL_load 243 = .ok (.invokevirtual 105, 3) := by decide +kernel
theorem dL_load_246 : decode cL_load 246 = .ok (.invokevirtual 15, 3) := by decide +kernel
theorem dL_load_249 : decode cL_load 249 = .ok (.goto 4, 3) := by decide +kernel
theorem dL_load_252 : decode cL_load 252 = .ok (.iconst 0, 1) := by decide +kernel
theorem dL_load_253 : decode cL_load 253 = .ok (.iadd, 1) := by decide +kernel
theorem dL_load_254 : decode cL_load 254 = .ok (.istore_n 3, 1) := by decide +kernel
theorem dL_load_255 : decode cL_load 255 = .ok (.bipush 53, 2) := by decide +kernel
theorem dL_load_257 : decode cL_load 257 = .ok (.iload_n 3, 1) := by decide +kernel
theorem dL_load_258 : decode cL_load 258 = .ok (.imul, 1) := by decide +kernel
theorem dL_load_259 : decode cL_load 259 = .ok (.aload_n 0, 1) := by decide +kernel
theorem dL_load_260 : decode cL_load 260 = .ok (.invokevirtual 111, 3) := by decide +kernel
theorem dL_load_263 : decode cL_load 263 = .ok (.iadd, 1) := by decide +kernel
theorem dL_load_264 : decode cL_load 264 = .ok (.ireturn, 1) := by decide +kernel
theorem dL_act_0 : decode cL_act 0 = .ok (.iload_n 1, 1) := by decide +kernel
theorem dL_act_1 : decode cL_act 1 = .ok (.bipush 15, 2) := by decide +kernel
theorem dL_act_3 : decode cL_act 3 = .ok (.iand, 1) := by decide +kernel
theorem dL_act_4 : decode cL_act 4 = .ok (.tableswitch 186 0 14 #[76, 76, 85, 97, 109, 109, 131, 143, 143, 148, 148, 160, 165, 173, 178], 76) := by decide +kernel
theorem dL_act_80 : decode cL_act 80 = .ok (.aload_n 0, 1) := by decide +kernel
theorem dL_act_81 : decode cL_act 81 = .ok (.iload_n 1, 1) := by decide +kernel
theorem dL_act_82 : decode cL_act 82 = .ok (.iconst 4, 1) := by decide +kernel
theorem dL_act_83 : decode cL_act 83 = .ok (.ishr, 1) := by decide +kernel
theorem dL_act_84 : decode cL_act 84 = .ok (.iload_n 2, 1) := by decide +kernel
theorem dL_act_85 : decode cL_act 85 = .ok (.invokestatic 114, 3) := by decide +kernel
theorem dL_act_88 : decode cL_act 88 = .ok (.ireturn, 1) := by decide +kernel
theorem dL_act_89 : decode cL_act 89 = .ok (.aload_n 0, 1) := by decide +kernel
theorem dL_act_90 : decode cL_act 90 = .ok (.iconst 1, 1) := by decide +kernel
theorem dL_act_91 : decode cL_act 91 = .ok (.iload_n 2, 1) := by decide +kernel
theorem dL_act_92 : decode cL_act 92 = .ok (.sipush 999, 3) := by decide +kernel
theorem dL_act_95 : decode cL_act 95 = .ok (.irem, 1) := by decide +kernel
theorem dL_act_96 : decode cL_act 96 = .ok (.iadd, 1) := by decide +kernel
theorem dL_act_97 : decode cL_act 97 = .ok (.invokevirtual 33, 3) := by decide +kernel
theorem dL_act_100 : decode cL_act 100 = .ok (.ireturn, 1) := by decide +kernel
theorem dL_act_101 : decode cL_act 101 = .ok (.aload_n 0, 1) := by decide +kernel
theorem dL_act_102 : decode cL_act 102 = .ok (.iconst 1, 1) := by decide +kernel
theorem dL_act_103 : decode cL_act 103 = .ok (.iload_n 2, 1) := by decide +kernel
theorem dL_act_104 : decode cL_act 104 = .ok (.sipush 999, 3) := by decide +kernel
theorem dL_act_107 : decode cL_act 107 = .ok (.irem, 1) := by decide +kernel
theorem dL_act_108 : decode cL_act 108 = .ok (.iadd, 1) := by decide +kernel
theorem dL_act_109 : decode cL_act 109 = .ok (.invokevirtual 36, 3) := by decide +kernel
theorem dL_act_112 : decode cL_act 112 = .ok (.ireturn, 1) := by decide +kernel
theorem dL_act_113 : decode cL_act 113 = .ok (.aload_n 0, 1) := by decide +kernel
theorem dL_act_114 : decode cL_act 114 = .ok (.iload_n 2, 1) := by decide +kernel
theorem dL_act_115 : decode cL_act 115 = .ok (.bipush 81, 2) := by decide +kernel
theorem dL_act_117 : decode cL_act 117 = .ok (.irem, 1) := by decide +kernel
theorem dL_act_118 : decode cL_act 118 = .ok (.bipush 40, 2) := by decide +kernel
theorem dL_act_120 : decode cL_act 120 = .ok (.isub, 1) := by decide +kernel
theorem dL_act_121 : decode cL_act 121 = .ok (.iload_n 2, 1) := by decide +kernel
theorem dL_act_122 : decode cL_act 122 = .ok (.bipush 81, 2) := by decide +kernel
theorem dL_act_124 : decode cL_act 124 = .ok (.idiv, 1) := by decide +kernel
theorem dL_act_125 : decode cL_act 125 = .ok (.bipush 81, 2) := by decide +kernel
theorem dL_act_127 : decode cL_act 127 = .ok (.irem, 1) := by decide +kernel
theorem dL_act_128 : decode cL_act 128 = .ok (.bipush 40, 2) := by decide +kernel
theorem dL_act_130 : decode cL_act 130 = .ok (.isub, 1) := by decide +kernel
theorem dL_act_131 : decode cL_act 131 = .ok (.invokevirtual 39, 3) := by decide +kernel
theorem dL_act_134 : decode cL_act 134 = .ok (.ireturn, 1) := by decide +kernel
theorem dL_act_135 : decode cL_act 135 = .ok (.aload_n 0, 1) := by decide +kernel
theorem dL_act_136 : decode cL_act 136 = .ok (.iconst 1, 1) := by decide +kernel
theorem dL_act_137 : decode cL_act 137 = .ok (.iload_n 2, 1) := by decide +kernel
theorem dL_act_138 : decode cL_act 138 = .ok (.sipush 500, 3) := by decide +kernel
theorem dL_act_141 : decode cL_act 141 = .ok (.irem, 1) := by decide +kernel
theorem dL_act_142 : decode cL_act 142 = .ok (.iadd, 1) := by decide +kernel
theorem dL_act_143 : decode cL_act 143 = .ok (.invokevirtual 43, 3) := by decide +kernel
theorem dL_act_146 : decode cL_act 146 = .ok (.ireturn, 1) := by decide +kernel
theorem dL_act_147 : decode cL_act 147 = .ok (.aload_n 0, 1) := by decide +kernel
theorem dL_act_148 : decode cL_act 148 = .ok (.invokevirtual 89, 3) := by decide +kernel
theorem dL_act_151 : decode cL_act 151 = .ok (.ireturn, 1) := by decide +kernel
theorem dL_act_152 : decode cL_act 152 = .ok (.aload_n 0, 1) := by decide +kernel
theorem dL_act_153 : decode cL_act 153 = .ok (.iconst 1, 1) := by decide +kernel
theorem dL_act_154 : decode cL_act 154 = .ok (.iload_n 2, 1) := by decide +kernel
theorem dL_act_155 : decode cL_act 155 = .ok (.sipush 20000, 3) := by decide +kernel
theorem dL_act_158 : decode cL_act 158 = .ok (.irem, 1) := by decide +kernel
theorem dL_act_159 : decode cL_act 159 = .ok (.iadd, 1) := by decide +kernel
theorem dL_act_160 : decode cL_act 160 = .ok (.invokevirtual 46, 3) := by decide +kernel
theorem dL_act_163 : decode cL_act 163 = .ok (.ireturn, 1) := by decide +kernel
theorem dL_act_164 : decode cL_act 164 = .ok (.aload_n 0, 1) := by decide +kernel
theorem dL_act_165 : decode cL_act 165 = .ok (.invokevirtual 86, 3) := by decide +kernel
theorem dL_act_168 : decode cL_act 168 = .ok (.ireturn, 1) := by decide +kernel
theorem dL_act_169 : decode cL_act 169 = .ok (.aload_n 0, 1) := by decide +kernel
theorem dL_act_170 : decode cL_act 170 = .ok (.iload_n 2, 1) := by decide +kernel
theorem dL_act_171 : decode cL_act 171 = .ok (.iconst 4, 1) := by decide +kernel
theorem dL_act_172 : decode cL_act 172 = .ok (.irem, 1) := by decide +kernel
theorem dL_act_173 : decode cL_act 173 = .ok (.invokevirtual 50, 3) := by decide +kernel
theorem dL_act_176 : decode cL_act 176 = .ok (.ireturn, 1) := by decide +kernel
theorem dL_act_177 : decode cL_act 177 = .ok (.aload_n 0, 1) := by decide +kernel
theorem dL_act_178 : decode cL_act 178 = .ok (.invokevirtual 116, 3) := by decide +kernel
theorem dL_act_181 : decode cL_act 181 = .ok (.ireturn, 1) := by decide +kernel
theorem dL_act_182 : decode cL_act 182 = .ok (.aload_n 0, 1) := by decide +kernel
theorem dL_act_183 : decode cL_act 183 = .ok (.iload_n 2, 1) := by decide +kernel
theorem dL_act_184 : decode cL_act 184 = .ok (.iconst 1, 1) := by decide +kernel
theorem dL_act_185 : decode cL_act 185 = .ok (.iand, 1) := by decide +kernel
theorem dL_act_186 : decode cL_act 186 = .ok (.invokevirtual 77, 3) := by decide +kernel
theorem dL_act_189 : decode cL_act 189 = .ok (.ireturn, 1) := by decide +kernel
theorem dL_act_190 : decode cL_act 190 = .ok (.aload_n 0, 1) := by decide +kernel
theorem dL_act_191 : decode cL_act 191 = .ok (.iload_n 2, 1) := by decide +kernel
theorem dL_act_192 : decode cL_act 192 = .ok (.iconst 1, 1) := by decide +kernel
theorem dL_act_193 : decode cL_act 193 = .ok (.iand, 1) := by decide +kernel
theorem dL_act_194 : decode cL_act 194 = .ok (.invokevirtual 80, 3) := by decide +kernel
theorem dL_act_197 : decode cL_act 197 = .ok (.ireturn, 1) := by decide +kernel
theorem dL_now_0 : decode cL_now 0 = .ok (.aload_n 0, 1) := by decide +kernel
theorem dL_now_1 : decode cL_now 1 = .ok (.invokevirtual 119, 3) := by decide +kernel
theorem dL_now_4 : decode cL_now 4 = .ok (.i2l, 1) := by decide +kernel
theorem dL_now_5 : decode cL_now 5 = .ok (.ldc2_w 122, 3) := by decide +kernel
theorem dL_now_8 : decode cL_now 8 = .ok (.aload_n 0, 1) := by decide +kernel
theorem dL_now_9 : decode cL_now 9 = .ok (.iconst 0, 1) := by decide +kernel
theorem dL_now_10 : decode cL_now 10 = .ok (.invokevirtual 21, 3) := by decide +kernel
theorem dL_now_13 : decode cL_now 13 = .ok (.i2l, 1) := by decide +kernel
theorem dL_now_14 : decode cL_now 14 = .ok (.lmul, 1) := by decide +kernel
theorem dL_now_15 : decode cL_now 15 = .ok (.ladd, 1) := by decide +kernel
theorem dL_now_16 : decode cL_now 16 = .ok (.ldc2_w 124, 3) := by decide +kernel
theorem dL_now_19 : decode cL_now 19 = .ok (.aload_n 0, 1) := by decide +kernel
theorem dL_now_20 : decode cL_now 20 = .ok (.iconst 1, 1) := by decide +kernel
theorem dL_now_21 : decode cL_now 21 = .ok (.invokevirtual 21, 3) := by decide +kernel
theorem dL_now_24 : decode cL_now 24 = .ok (.i2l, 1) := by decide +kernel
theorem dL_now_25 : decode cL_now 25 = .ok (.lmul, 1) := by decide +kernel
theorem dL_now_26 : decode cL_now 26 = .ok (.ladd, 1) := by decide +kernel
theorem dL_now_27 : decode cL_now 27 = .ok (.ldc2_w 126, 3) := by decide +kernel
theorem dL_now_30 : decode cL_now 30 = .ok (.aload_n 0, 1) := by decide +kernel
theorem dL_now_31 : decode cL_now 31 = .ok (.invokevirtual 83, 3) := by decide +kernel
theorem dL_now_34 : decode cL_now 34 = .ok (.i2l, 1) := by decide +kernel
theorem dL_now_35 : decode cL_now 35 = .ok (.lmul, 1) := by decide +kernel
theorem dL_now_36 : decode cL_now 36 = .ok (.ladd, 1) := by decide +kernel
theorem dL_now_37 : decode cL_now 37 = .ok (.ldc2_w 128, 3) := by decide +kernel
theorem dL_now_40 : decode cL_now 40 = .ok (.aload_n 0, 1) := by decide +kernel
theorem dL_now_41 : decode cL_now 41 = .ok (.invokevirtual 130, 3) := by decide +kernel
theorem dL_now_44 : decode cL_now 44 = .ok (.i2l, 1) := by decide +kernel
theorem dL_now_45 : decode cL_now 45 = .ok (.lmul, 1) := by decide +kernel
theorem dL_now_46 : decode cL_now 46 = .ok (.ladd, 1) := by decide +kernel
theorem dL_now_47 : decode cL_now 47 = .ok (.aload_n 0, 1) := by decide +kernel
theorem dL_now_48 : decode cL_now 48 = .ok (.iconst 3, 1) := by decide +kernel
theorem dL_now_49 : decode cL_now 49 = .ok (.invokevirtual 30, 3) := by decide +kernel
theorem dL_now_52 : decode cL_now 52 = .ok (.i2l, 1) := by decide +kernel
theorem dL_now_53 : decode cL_now 53 = .ok (.ladd, 1) := by decide +kernel
theorem dL_now_54 : decode cL_now 54 = .ok (.lstore_n 1, 1) := by decide +kernel
theorem dL_now_55 : decode cL_now 55 = .ok (.iconst 0, 1) := by decide +kernel
theorem dL_now_56 : decode cL_now 56 = .ok (.istore_n 3, 1) := by decide +kernel
theorem dL_now_57 : decode cL_now 57 = .ok (.iload_n 3, 1) := by decide +kernel
theorem dL_now_58 : decode cL_now 58 = .ok (.aload_n 0, 1) := by decide +kernel
theorem dL_now_59 : decode cL_now 59 = .ok (.invokevirtual 9, 3) := by decide +kernel
theorem dL_now_62 : decode cL_now 62 = .ok (.if_icmp .ge 26, 3) := by decide +kernel
theorem dL_now_65 : decode cL_now 65 = .ok (.ldc2_w 128, 3) := by decide +kernel
theorem dL_now_68 : decode cL_now 68 = .ok (.lload_n 1, 1) := by decide +kernel
theorem dL_now_69 : decode cL_now 69 = .ok (.lmul, 1) := by decide +kernel
theorem dL_now_70 : decode cL_now 70 = .ok (.ldc2_w 133, 3) := by decide +kernel
theorem dL_now_73 : decode cL_now 73 = .ok (.lrem, 1) := by decide +kernel
theorem dL_now_74 : decode cL_now 74 = .ok (.aload_n 0, 1) := by decide +kernel
theorem dL_now_75 : decode cL_now 75 = .ok (.iload_n 3, 1) := by decide +kernel
theorem dL_now_76 : decode cL_now 76 = .ok (.invokevirtual 24, 3) := by decide +kernel
theorem dL_now_79 : decode cL_now 79 = .ok (.i2l, 1) := by decide +kernel
theorem dL_now_80 : decode cL_now 80 = .ok (.ladd, 1) := by decide +kernel
theorem dL_now_81 : decode cL_now 81 = .ok (.lstore_n 1, 1) := by decide +kernel
theorem dL_now_82 : decode cL_now 82 = .ok (.iinc 3 1, 3) := by decide +kernel
theorem dL_now_85 : decode cL_now 85 = .ok (.goto (-28), 3) := by decide +kernel
theorem dL_now_88 : decode cL_now 88 = .ok (.lload_n 1, 1) := by decide +kernel
theorem dL_now_89 : decode cL_now 89 = .ok (.lreturn, 1) := by decide +kernel
theorem dL_alike_0 : decode cL_alike 0 = .ok (.aload_n 0, 1) := by decide +kernel
theorem dL_alike_1 : decode cL_alike 1 = .ok (.invokevirtual 9, 3) := by decide +kernel
theorem dL_alike_4 : decode cL_alike 4 = .ok (.aload_n 1, 1) := by decide +kernel
theorem dL_alike_5 : decode cL_alike 5 = .ok (.invokevirtual 9, 3) := by decide +kernel
theorem dL_alike_8 : decode cL_alike 8 = .ok (.if_icmp .ne 41, 3) := by decide +kernel
theorem dL_alike_11 : decode cL_alike 11 = .ok (.aload_n 0, 1) := by decide +kernel
theorem dL_alike_12 : decode cL_alike 12 = .ok (.invokestatic 135, 3) := by decide +kernel
theorem dL_alike_15 : decode cL_alike 15 = .ok (.aload_n 1, 1) := by decide +kernel
theorem dL_alike_16 : decode cL_alike 16 = .ok (.invokestatic 135, 3) := by decide +kernel
theorem dL_alike_19 : decode cL_alike 19 = .ok (.lcmp, 1) := by decide +kernel
theorem dL_alike_20 : decode cL_alike 20 = .ok (.ifCond .ne 29, 3) := by decide +kernel
theorem dL_alike_23 : decode cL_alike 23 = .ok (.aload_n 0, 1) := by decide +kernel
theorem dL_alike_24 : decode cL_alike 24 = .ok (.invokevirtual 139, 3) := by decide +kernel
theorem dL_alike_27 : decode cL_alike 27 = .ok (.aload_n 1, 1) := by decide +kernel
theorem dL_alike_28 : decode cL_alike 28 = .ok (.invokevirtual 139, 3) := by decide +kernel
theorem dL_alike_31 : decode cL_alike 31 = .ok (.if_icmp .ne 18, 3) := by decide +kernel
theorem dL_alike_34 : decode cL_alike 34 = .ok (.aload_n 0, 1) := by decide +kernel
theorem dL_alike_35 : decode cL_alike 35 = .ok (.invokevirtual 92, 3) := by decide +kernel
theorem dL_alike_38 : decode cL_alike 38 = .ok (.aload_n 1, 1) := by decide +kernel
theorem dL_alike_39 : decode cL_alike 39 = .ok (.invokevirtual 92, 3) := by decide +kernel
theorem dL_alike_42 : decode cL_alike 42 = .ok (.if_icmp .ne 7, 3) := by decide +kernel
theorem dL_alike_45 : decode cL_alike 45 = .ok (.iconst 1, 1) := by decide +kernel
theorem dL_alike_46 : decode cL_alike 46 = .ok (.goto 4, 3) := by decide +kernel
theorem dL_alike_49 : decode cL_alike 49 = .ok (.iconst 0, 1) := by decide +kernel
theorem dL_alike_50 : decode cL_alike 50 = .ok (.istore_n 2, 1) := by decide +kernel
theorem dL_alike_51 : decode cL_alike 51 = .ok (.iconst 0, 1) := by decide +kernel
theorem dL_alike_52 : decode cL_alike 52 = .ok (.istore_n 3, 1) := by decide +kernel
theorem dL_alike_53 : decode cL_alike 53 = .ok (.iload_n 3, 1) := by decide +kernel
theorem dL_alike_54 : decode cL_alike 54 = .ok (.bipush 6, 2) := by decide +kernel
theorem dL_alike_56 : decode cL_alike 56 = .ok (.if_icmp .ge 132, 3) := by decide +kernel
theorem dL_alike_59 : decode cL_alike 59 = .ok (.iload_n 2, 1) := by decide +kernel
theorem dL_alike_60 : decode cL_alike 60 = .ok (.ifCond .eq 120, 3) := by decide +kernel
theorem dL_alike_63 : decode cL_alike 63 = .ok (.aload_n 0, 1) := by decide +kernel
theorem dL_alike_64 : decode cL_alike 64 = .ok (.sipush 199, 3) := by decide +kernel
theorem dL_alike_67 : decode cL_alike 67 = .ok (.iload_n 3, 1) := by decide +kernel
theorem dL_alike_68 : decode cL_alike 68 = .ok (.imul, 1) := by decide +kernel
theorem dL_alike_69 : decode cL_alike 69 = .ok (.invokevirtual 27, 3) := by decide +kernel
theorem dL_alike_72 : decode cL_alike 72 = .ok (.aload_n 1, 1) := by decide +kernel
theorem dL_alike_73 : decode cL_alike 73 = .ok (.sipush 199, 3) := by decide +kernel
theorem dL_alike_76 : decode cL_alike 76 = .ok (.iload_n 3, 1) := by decide +kernel
theorem dL_alike_77 : decode cL_alike 77 = .ok (.imul, 1) := by decide +kernel
theorem dL_alike_78 : decode cL_alike 78 = .ok (.invokevirtual 27, 3) := by decide +kernel
theorem dL_alike_81 : decode cL_alike 81 = .ok (.if_icmp .ne 99, 3) := by decide +kernel
theorem dL_alike_84 : decode cL_alike 84 = .ok (.aload_n 0, 1) := by decide +kernel
theorem dL_alike_85 : decode cL_alike 85 = .ok (.sipush 199, 3) := by decide +kernel
theorem dL_alike_88 : decode cL_alike 88 = .ok (.iload_n 3, 1) := by decide +kernel
theorem dL_alike_89 : decode cL_alike 89 = .ok (.imul, 1) := by decide +kernel
theorem dL_alike_90 : decode cL_alike 90 = .ok (.invokevirtual 30, 3) := by decide +kernel
theorem dL_alike_93 : decode cL_alike 93 = .ok (.aload_n 1, 1) := by decide +kernel
theorem dL_alike_94 : decode cL_alike 94 = .ok (.sipush 199, 3) := by decide +kernel
theorem dL_alike_97 : decode cL_alike 97 = .ok (.iload_n 3, 1) := by decide +kernel
theorem dL_alike_98 : decode cL_alike 98 = .ok (.imul, 1) := by decide +kernel
theorem dL_alike_99 : decode cL_alike 99 = .ok (.invokevirtual 30, 3) := by decide +kernel
theorem dL_alike_102 : decode cL_alike 102 = .ok (.if_icmp .ne 78, 3) := by decide +kernel
theorem dL_alike_105 : decode cL_alike 105 = .ok (.aload_n 0, 1) := by decide +kernel
theorem dL_alike_106 : decode cL_alike 106 = .ok (.iconst 1, 1) := by decide +kernel
theorem dL_alike_107 : decode cL_alike 107 = .ok (.sipush 150, 3) := by decide +kernel
theorem dL_alike_110 : decode cL_alike 110 = .ok (.iload_n 3, 1) := by decide +kernel
theorem dL_alike_111 : decode cL_alike 111 = .ok (.imul, 1) := by decide +kernel
theorem dL_alike_112 : decode cL_alike 112 = .ok (.iadd, 1) := by decide +kernel
theorem dL_alike_113 : decode cL_alike 113 = .ok (.invokevirtual 53, 3) := by decide +kernel
theorem dL_alike_116 : decode cL_alike 116 = .ok (.aload_n 1, 1) := by decide +kernel
theorem dL_alike_117 : decode cL_alike 117 = .ok (.iconst 1, 1) := by decide +kernel
theorem dL_alike_118 : decode cL_alike 118 = .ok (.sipush 150, 3) := by decide +kernel
theorem dL_alike_121 : decode cL_alike 121 = .ok (.iload_n 3, 1) := by decide +kernel
theorem dL_alike_122 : decode cL_alike 122 = .ok (.imul, 1) := by decide +kernel
theorem dL_alike_123 : decode cL_alike 123 = .ok (.iadd, 1) := by decide +kernel
theorem dL_alike_124 : decode cL_alike 124 = .ok (.invokevirtual 53, 3) := by decide +kernel
theorem dL_alike_127 : decode cL_alike 127 = .ok (.if_icmp .ne 53, 3) := by decide +kernel
theorem dL_alike_130 : decode cL_alike 130 = .ok (.aload_n 0, 1) := by decide +kernel
theorem dL_alike_131 : decode cL_alike 131 = .ok (.iload_n 3, 1) := by decide +kernel
theorem dL_alike_132 : decode cL_alike 132 = .ok (.iconst 2, 1) := by decide +kernel
theorem dL_alike_133 : decode cL_alike 133 = .ok (.irem, 1) := by decide +kernel
theorem dL_alike_134 : decode cL_alike 134 = .ok (.sipush 3000, 3) := by decide +kernel
theorem dL_alike_137 : decode cL_alike 137 = .ok (.iload_n 3, 1) := by decide +kernel
theorem dL_alike_138 : decode cL_alike 138 = .ok (.imul, 1) := by decide +kernel
theorem dL_alike_139 : decode cL_alike 139 = .ok (.invokevirtual 56, 3) := by decide +kernel
theorem dL_alike_142 : decode cL_alike 142 = .ok (.aload_n 1, 1) := by decide +kernel
theorem dL_alike_143 : decode cL_alike 143 = .ok (.iload_n 3, 1) := by decide +kernel
theorem dL_alike_144 : decode cL_alike 144 = .ok (.iconst 2, 1) := by decide +kernel
theorem dL_alike_145 : decode cL_alike 145 = .ok (.irem, 1) := by decide +kernel
theorem dL_alike_146 : decode cL_alike 146 = .ok (.sipush 3000, 3) := by decide +kernel
theorem dL_alike_149 : decode cL_alike 149 = .ok (.iload_n 3, 1) := by decide +kernel
theorem dL_alike_150 : decode cL_alike 150 = .ok (.imul, 1) := by decide +kernel
theorem dL_alike_151 : decode cL_alike 151 = .ok (.invokevirtual 56, 3) := by decide +kernel
theorem dL_alike_154 : decode cL_alike 154 = .ok (.if_icmp .ne 26, 3) := by decide +kernel
theorem dL_alike_157 : decode cL_alike 157 = .ok (.aload_n 0, 1) := by decide +kernel
theorem dL_alike_158 : decode cL_alike 158 = .ok (.iload_n 3, 1) := by decide +kernel
theorem dL_alike_159 : decode cL_alike 159 = .ok (.i2l, 1) := by decide +kernel
theorem dL_alike_160 : decode cL_alike 160 = .ok (.bipush 20, 2) := by decide +kernel
theorem dL_alike_162 : decode cL_alike 162 = .ok (.invokevirtual 73, 3) := by decide +kernel
theorem dL_alike_165 : decode cL_alike 165 = .ok (.aload_n 1, 1) := by decide +kernel
theorem dL_alike_166 : decode cL_alike 166 = .ok (.iload_n 3, 1) := by decide +kernel
theorem dL_alike_167 : decode cL_alike 167 = .ok (.i2l, 1) := by decide +kernel
theorem dL_alike_168 : decode cL_alike 168 = .ok (.bipush 20, 2) := by decide +kernel
theorem dL_alike_170 : decode cL_alike 170 = .ok (.invokevirtual 73, 3) := by decide +kernel
theorem dL_alike_173 : decode cL_alike 173 = .ok (.if_icmp .ne 7, 3) := by decide +kernel
theorem dL_alike_176 : decode cL_alike 176 = .ok (.iconst 1, 1) := by decide +kernel
theorem dL_alike_177 : decode cL_alike 177 = .ok (.goto 4, 3) := by decide +kernel
theorem dL_alike_180 : decode cL_alike 180 = .ok (.iconst 0, 1) := by decide +kernel
theorem dL_alike_181 : decode cL_alike 181 = .ok (.istore_n 2, 1) := by decide +kernel
theorem dL_alike_182 : decode cL_alike 182 = .ok (.iinc 3 1, 3) := by decide +kernel
theorem dL_alike_185 : decode cL_alike 185 = .ok (.goto (-132), 3) := by decide +kernel
theorem dL_alike_188 : decode cL_alike 188 = .ok (.iload_n 2, 1) := by decide +kernel
theorem dL_alike_189 : decode cL_alike 189 = .ok (.ireturn, 1) := by decide +kernel
theorem dL_ramped_0 : decode cL_ramped 0 = .ok (.aload_n 0, 1) := by decide +kernel
theorem dL_ramped_1 : decode cL_ramped 1 = .ok (.invokevirtual 130, 3) := by decide +kernel
theorem dL_ramped_4 : decode cL_ramped 4 = .ok (.istore_n 2, 1) := by decide +kernel
theorem dL_ramped_5 : decode cL_ramped 5 = .ok (.aload_n 0, 1) := by decide +kernel
theorem dL_ramped_6 : decode cL_ramped 6 = .ok (.iload_n 2, 1) := by decide +kernel
theorem dL_ramped_7 : decode cL_ramped 7 = .ok (.invokevirtual 27, 3) := by decide +kernel
theorem dL_ramped_10 : decode cL_ramped 10 = .ok (.istore_n 3, 1) := by decide +kernel
theorem dL_ramped_11 : decode cL_ramped 11 = .ok (.iload_n 2, 1) := by decide +kernel
theorem dL_ramped_12 : decode cL_ramped 12 = .ok (.ifCond .lt 14, 3) := by decide +kernel
theorem dL_ramped_15 : decode cL_ramped 15 = .ok (.iload_n 2, 1) := by decide +kernel
theorem dL_ramped_16 : decode cL_ramped 16 = .ok (.sipush 999, 3) := by decide +kernel
theorem dL_ramped_19 : decode cL_ramped 19 = .ok (.if_icmp .gt 7, 3) := by decide +kernel
theorem dL_ramped_22 : decode cL_ramped 22 = .ok (.iconst 1, 1) := by decide +kernel
theorem dL_ramped_23 : decode cL_ramped 23 = .ok (.goto 4, 3) := by decide +kernel
theorem dL_ramped_26 : decode cL_ramped 26 = .ok (.iconst 0, 1) := by decide +kernel
theorem dL_ramped_27 : decode cL_ramped 27 = .ok (.istore 4, 2) := by decide +kernel
theorem dL_ramped_29 : decode cL_ramped 29 = .ok (.iconst 0, 1) := by decide +kernel
theorem dL_ramped_30 : decode cL_ramped 30 = .ok (.istore 5, 2) := by decide +kernel
theorem dL_ramped_32 : decode cL_ramped 32 = .ok (.iload 5, 2) := by decide +kernel
theorem dL_ramped_34 : decode cL_ramped 34 = .ok (.iload_n 2, 1) := by decide +kernel
theorem dL_ramped_35 : decode cL_ramped 35 = .ok (.if_icmp .ge 45, 3) := by decide +kernel
theorem dL_ramped_38 : decode cL_ramped 38 = .ok (.iload 5, 2) := by decide +kernel
theorem dL_ramped_40 : decode cL_ramped 40 = .ok (.bipush 40, 2) := by decide +kernel
theorem dL_ramped_42 : decode cL_ramped 42 = .ok (.if_icmp .ge 38, 3) := by decide +kernel
theorem dL_ramped_45 : decode cL_ramped 45 = .ok (.iload 4, 2) := by decide +kernel
theorem dL_ramped_47 : decode cL_ramped 47 = .ok (.ifCond .eq 33, 3) := by decide +kernel
theorem dL_ramped_50 : decode cL_ramped 50 = .ok (.aload_n 0, 1) := by decide +kernel
theorem dL_ramped_51 : decode cL_ramped 51 = .ok (.iload 5, 2) := by decide +kernel
theorem dL_ramped_53 : decode cL_ramped 53 = .ok (.invokevirtual 27, 3) := by decide +kernel
theorem dL_ramped_56 : decode cL_ramped 56 = .ok (.iload_n 3, 1) := by decide +kernel
theorem dL_ramped_57 : decode cL_ramped 57 = .ok (.if_icmp .gt 10, 3) := by decide +kernel
theorem dL_ramped_60 : decode cL_ramped 60 = .ok (.iload_n 2, 1) := by decide +kernel
theorem dL_ramped_61 : decode cL_ramped 61 = .ok (.sipush 999, 3) := by decide +kernel
theorem dL_ramped_64 : decode cL_ramped 64 = .ok (.if_icmp .ne 7, 3) := by decide +kernel
theorem dL_ramped_67 : decode cL_ramped 67 = .ok (.iconst 1, 1) := by decide +kernel
theorem dL_ramped_68 : decode cL_ramped 68 = .ok (.goto 4, 3) := by decide +kernel
theorem dL_ramped_71 : decode cL_ramped 71 = .ok (.iconst 0, 1) := by decide +kernel
theorem dL_ramped_72 : decode cL_ramped 72 = .ok (.istore 4, 2) := by decide +kernel
theorem dL_ramped_74 : decode cL_ramped 74 = .ok (.iinc 5 1, 3) := by decide +kernel
theorem dL_ramped_77 : decode cL_ramped 77 = .ok (.goto (-45), 3) := by decide +kernel
theorem dL_ramped_80 : decode cL_ramped 80 = .ok (.iconst 1, 1) := by decide +kernel
theorem dL_ramped_81 : decode cL_ramped 81 = .ok (.iload_n 1, 1) := by decide +kernel
theorem dL_ramped_82 : decode cL_ramped 82 = .ok (.bipush 60, 2) := by decide +kernel
theorem dL_ramped_84 : decode cL_ramped 84 = .ok (.irem, 1) := by decide +kernel
theorem dL_ramped_85 : decode cL_ramped 85 = .ok (.iadd, 1) := by decide +kernel
theorem dL_ramped_86 : decode cL_ramped 86 = .ok (.istore 5, 2) := by decide +kernel
theorem dL_ramped_88 : decode cL_ramped 88 = .ok (.iconst 0, 1) := by decide +kernel
theorem dL_ramped_89 : decode cL_ramped 89 = .ok (.istore 6, 2) := by decide +kernel
theorem dL_ramped_91 : decode cL_ramped 91 = .ok (.iconst 0, 1) := by decide +kernel
theorem dL_ramped_92 : decode cL_ramped 92 = .ok (.istore 7, 2) := by decide +kernel
theorem dL_ramped_94 : decode cL_ramped 94 = .ok (.iload 5, 2) := by decide +kernel
theorem dL_ramped_96 : decode cL_ramped 96 = .ok (.istore 8, 2) := by decide +kernel
theorem dL_ramped_98 : decode cL_ramped 98 = .ok (.iload 8, 2) := by decide +kernel
theorem dL_ramped_100 : decode cL_ramped 100 = .ok (.ifCond .le 88, 3) := by decide +kernel
theorem dL_ramped_103 : decode cL_ramped 103 = .ok (.iload 4, 2) := by decide +kernel
theorem dL_ramped_105 : decode cL_ramped 105 = .ok (.ifCond .eq 83, 3) := by decide +kernel
theorem dL_ramped_108 : decode cL_ramped 108 = .ok (.iload 8, 2) := by decide +kernel
theorem dL_ramped_110 : decode cL_ramped 110 = .ok (.iconst 1, 1) := by decide +kernel
theorem dL_ramped_111 : decode cL_ramped 111 = .ok (.isub, 1) := by decide +kernel
theorem dL_ramped_112 : decode cL_ramped 112 = .ok (.iload_n 2, 1) := by decide +kernel
theorem dL_ramped_113 : decode cL_ramped 113 = .ok (.if_icmp .ge 10, 3) := by decide +kernel
theorem dL_ramped_116 : decode cL_ramped 116 = .ok (.iload 8, 2) := by decide +kernel
theorem dL_ramped_118 : decode cL_ramped 118 = .ok (.iconst 1, 1) := by decide +kernel
theorem dL_ramped_119 : decode cL_ramped 119 = .ok (.isub, 1) := by decide +kernel
theorem dL_ramped_120 : decode cL_ramped 120 = .ok (.goto 4, 3) := by decide +kernel
theorem dL_ramped_123 : decode cL_ramped 123 = .ok (.iload_n 2, 1) := by decide +kernel
theorem dL_ramped_124 : decode cL_ramped 124 = .ok (.istore 9, 2) := by decide +kernel
theorem dL_ramped_126 : decode cL_ramped 126 = .ok (.iload 8, 2) := by decide +kernel
theorem dL_ramped_128 : decode cL_ramped 128 = .ok (.iload 5, 2) := by decide +kernel
theorem dL_ramped_130 : decode cL_ramped 130 = .ok (.if_icmp .ne 7, 3) := by decide +kernel
theorem dL_ramped_133 : decode cL_ramped 133 = .ok (.iconst 0, 1) := by decide +kernel
theorem dL_ramped_134 : decode cL_ramped 134 = .ok (.goto 35, 3) := by decide +kernel
theorem dL_ramped_137 : decode cL_ramped 137 = .ok (.iload 7, 2) := by decide +kernel
theorem dL_ramped_139 : decode cL_ramped 139 = .ok (.iconst 1, 1) := by decide +kernel
theorem dL_ramped_140 : decode cL_ramped 140 = .ok (.iadd, 1) := by decide +kernel
theorem dL_ramped_141 : decode cL_ramped 141 = .ok (.iload 9, 2) := by decide +kernel
theorem dL_ramped_143 : decode cL_ramped 143 = .ok (.if_icmp .gt 10, 3) := by decide +kernel
theorem dL_ramped_146 : decode cL_ramped 146 = .ok (.iload 7, 2) := by decide +kernel
theorem dL_ramped_148 : decode cL_ramped 148 = .ok (.iconst 1, 1) := by decide +kernel
theorem dL_ramped_149 : decode cL_ramped 149 = .ok (.iadd, 1) := by decide +kernel
theorem dL_ramped_150 : decode cL_ramped 150 = .ok (.goto 19, 3) := by decide +kernel
theorem dL_ramped_153 : decode cL_ramped 153 = .ok (.iload 7, 2) := by decide +kernel
theorem dL_ramped_155 : decode cL_ramped 155 = .ok (.iload 9, 2) := by decide +kernel
theorem dL_ramped_157 : decode cL_ramped 157 = .ok (.if_icmp .gt 8, 3) := by decide +kernel
theorem dL_ramped_160 : decode cL_ramped 160 = .ok (.iload 7, 2) := by decide +kernel
theorem dL_ramped_162 : decode cL_ramped 162 = .ok (.goto 7, 3) := by decide +kernel
theorem dL_ramped_165 : decode cL_ramped 165 = .ok (.iload 7, 2) := by decide +kernel
theorem dL_ramped_167 : decode cL_ramped 167 = .ok (.iconst 1, 1) := by decide +kernel
theorem dL_ramped_168 : decode cL_ramped 168 = .ok (.isub, 1) := by decide +kernel
theorem dL_ramped_169 : decode cL_ramped 169 = .ok (.istore 7, 2) := by decide +kernel
theorem dL_ramped_171 : decode cL_ramped 171 = .ok (.iload 6, 2) := by decide +kernel
theorem dL_ramped_173 : decode cL_ramped 173 = .ok (.aload_n 0, 1) := by decide +kernel
theorem dL_ramped_174 : decode cL_ramped 174 = .ok (.iload 7, 2) := by decide +kernel
theorem dL_ramped_176 : decode cL_ramped 176 = .ok (.invokevirtual 27, 3) := by decide +kernel
theorem dL_ramped_179 : decode cL_ramped 179 = .ok (.iadd, 1) := by decide +kernel
theorem dL_ramped_180 : decode cL_ramped 180 = .ok (.istore 6, 2) := by decide +kernel
theorem dL_ramped_182 : decode cL_ramped 182 = .ok (.iinc 8 (-1), 3) := by decide +kernel
theorem dL_ramped_185 : decode cL_ramped 185 = .ok (.goto (-87), 3) := by decide +kernel
theorem dL_ramped_188 : decode cL_ramped 188 = .ok (.iload 4, 2) := by decide +kernel
theorem dL_ramped_190 : decode cL_ramped 190 = .ok (.ifCond .eq 23, 3) := by decide +kernel
theorem dL_ramped_193 : decode cL_ramped 193 = .ok (.aload_n 0, 1) := by decide +kernel
theorem dL_ramped_194 : decode cL_ramped 194 = .ok (.iload 5, 2) := by decide +kernel
theorem dL_ramped_196 : decode cL_ramped 196 = .ok (.invokevirtual 53, 3) := by decide +kernel
theorem dL_ramped_199 : decode cL_ramped 199 = .ok (.iload 6, 2) := by decide +kernel
theorem dL_ramped_201 : decode cL_ramped 201 = .ok (.if_icmp .ne 12, 3) := by decide +kernel
theorem dL_ramped_204 : decode cL_ramped 204 = .ok (.iload 7, 2) := by decide +kernel
theorem dL_ramped_206 : decode cL_ramped 206 = .ok (.ifCond .ne 7, 3) := by decide +kernel
theorem dL_ramped_209 : decode cL_ramped 209 = .ok (.iconst 1, 1) := by decide +kernel
theorem dL_ramped_210 : decode cL_ramped 210 = .ok (.goto 4, 3) := by decide +kernel
theorem dL_ramped_213 : decode cL_ramped 213 = .ok (.iconst 0, 1) := by decide +kernel
theorem dL_ramped_214 : decode cL_ramped 214 = .ok (.istore 4, 2) := by decide +kernel
theorem dL_ramped_216 : decode cL_ramped 216 = .ok (.iload 6, 2) := by decide +kernel
theorem dL_ramped_218 : decode cL_ramped 218 = .ok (.ldc 49, 2) := by decide +kernel
theorem dL_ramped_220 : decode cL_ramped 220 = .ok (.if_icmp .ge 62, 3) := by decide +kernel
theorem dL_ramped_223 : decode cL_ramped 223 = .ok (.iload 4, 2) := by decide +kernel
theorem dL_ramped_225 : decode cL_ramped 225 = .ok (.ifCond .eq 57, 3) := by decide +kernel
theorem dL_ramped_228 : decode cL_ramped 228 = .ok (.aload_n 0, 1) := by decide +kernel
theorem dL_ramped_229 : decode cL_ramped 229 = .ok (.iload 6, 2) := by decide +kernel
theorem dL_ramped_231 : decode cL_ramped 231 = .ok (.invokevirtual 62, 3) := by decide +kernel
theorem dL_ramped_234 : decode cL_ramped 234 = .ok (.istore 8, 2) := by decide +kernel
theorem dL_ramped_236 : decode cL_ramped 236 = .ok (.iload 8, 2) := by decide +kernel
theorem dL_ramped_238 : decode cL_ramped 238 = .ok (.iload 5, 2) := by decide +kernel
theorem dL_ramped_240 : decode cL_ramped 240 = .ok (.if_icmp .lt 39, 3) := by decide +kernel
theorem dL_ramped_243 : decode cL_ramped 243 = .ok (.aload_n 0, 1) := by decide +kernel
theorem dL_ramped_244 : decode cL_ramped 244 = .ok (.iload 8, 2) := by decide +kernel
theorem dL_ramped_246 : decode cL_ramped 246 = .ok (.invokevirtual 53, 3) := by decide +kernel
theorem dL_ramped_249 : decode cL_ramped 249 = .ok (.iload 6, 2) := by decide +kernel
theorem dL_ramped_251 : decode cL_ramped 251 = .ok (.if_icmp .gt 28, 3) := by decide +kernel
theorem dL_ramped_254 : decode cL_ramped 254 = .ok (.iload 8, 2) := by decide +kernel
theorem dL_ramped_256 : decode cL_ramped 256 = .ok (.sipush 999, 3) := by decide +kernel
theorem dL_ramped_259 : decode cL_ramped 259 = .ok (.if_icmp .eq 16, 3) := by decide +kernel
theorem dL_ramped_262 : decode cL_ramped 262 = .ok (.aload_n 0, 1) := by decide +kernel
theorem dL_ramped_263 : decode cL_ramped 263 = .ok (.iload 8, 2) := by decide +kernel
theorem dL_ramped_265 : decode cL_ramped 265 = .ok (.iconst 1, 1) := by decide +kernel
theorem dL_ramped_266 : decode cL_ramped 266 = .ok (.iadd, 1) := by decide +kernel
theorem dL_ramped_267 : decode cL_ramped 267 = .ok (.invokevirtual 53, 3) := by decide +kernel
theorem dL_ramped_270 : decode cL_ramped 270 = .ok (.iload 6, 2) := by decide +kernel
theorem dL_ramped_272 : decode cL_ramped 272 = .ok (.if_icmp .le 7, 3) := by decide +kernel
theorem dL_ramped_275 : decode cL_ramped 275 = .ok (.iconst 1, 1) := by decide +kernel
theorem dL_ramped_276 : decode cL_ramped 276 = .ok (.goto 4, 3) := by decide +kernel
theorem dL_ramped_279 : decode cL_ramped 279 = .ok (.iconst 0, 1) := by decide +kernel
theorem dL_ramped_280 : decode cL_ramped 280 = .ok (.istore 4, 2) := by decide +kernel
theorem dL_ramped_282 : decode cL_ramped 282 = .ok (.iload 4, 2) := by decide +kernel
theorem dL_ramped_284 : decode cL_ramped 284 = .ok (.ireturn, 1) := by decide +kernel
theorem dL_ahead_0 : decode cL_ahead 0 = .ok (.aload_n 0, 1) := by decide +kernel
theorem dL_ahead_1 : decode cL_ahead 1 = .ok (.invokestatic 135, 3) := by decide +kernel
theorem dL_ahead_4 : decode cL_ahead 4 = .ok (.lstore_n 2, 1) := by decide +kernel
theorem dL_ahead_5 : decode cL_ahead 5 = .ok (.aload_n 0, 1) := by decide +kernel
theorem dL_ahead_6 : decode cL_ahead 6 = .ok (.invokevirtual 9, 3) := by decide +kernel
theorem dL_ahead_9 : decode cL_ahead 9 = .ok (.istore 4, 2) := by decide +kernel
theorem dL_ahead_11 : decode cL_ahead 11 = .ok (.aload_n 0, 1) := by decide +kernel
theorem dL_ahead_12 : decode cL_ahead 12 = .ok (.iconst 1, 1) := by decide +kernel
theorem dL_ahead_13 : decode cL_ahead 13 = .ok (.invokevirtual 77, 3) := by decide +kernel
theorem dL_ahead_16 : decode cL_ahead 16 = .ok (.iload 4, 2) := by decide +kernel
theorem dL_ahead_18 : decode cL_ahead 18 = .ok (.if_icmp .ne 7, 3) := by decide +kernel
theorem dL_ahead_21 : decode cL_ahead 21 = .ok (.iconst 1, 1) := by decide +kernel
theorem dL_ahead_22 : decode cL_ahead 22 = .ok (.goto 4, 3) := by decide +kernel
theorem dL_ahead_25 : decode cL_ahead 25 = .ok (.iconst 0, 1) := by decide +kernel
theorem dL_ahead_26 : decode cL_ahead 26 = .ok (.istore 5, 2) := by decide +kernel
theorem dL_ahead_28 : decode cL_ahead 28 = .ok (.iload_n 1, 1) := by decide +kernel
theorem dL_ahead_29 : decode cL_ahead 29 = .ok (.sipush 4000, 3) := by decide +kernel
theorem dL_ahead_32 : decode cL_ahead 32 = .ok (.irem, 1) := by decide +kernel
theorem dL_ahead_33 : decode cL_ahead 33 = .ok (.istore 6, 2) := by decide +kernel
theorem dL_ahead_35 : decode cL_ahead 35 = .ok (.aload_n 0, 1) := by decide +kernel
theorem dL_ahead_36 : decode cL_ahead 36 = .ok (.iconst 0, 1) := by decide +kernel
theorem dL_ahead_37 : decode cL_ahead 37 = .ok (.iload 6, 2) := by decide +kernel
theorem dL_ahead_39 : decode cL_ahead 39 = .ok (.invokevirtual 56, 3) := by decide +kernel
theorem dL_ahead_42 : decode cL_ahead 42 = .ok (.istore 7, 2) := by decide +kernel
theorem dL_ahead_44 : decode cL_ahead 44 = .ok (.aload_n 0, 1) := by decide +kernel
theorem dL_ahead_45 : decode cL_ahead 45 = .ok (.iconst 1, 1) := by decide +kernel
theorem dL_ahead_46 : decode cL_ahead 46 = .ok (.iload 6, 2) := by decide +kernel
theorem dL_ahead_48 : decode cL_ahead 48 = .ok (.invokevirtual 56, 3) := by decide +kernel
theorem dL_ahead_51 : decode cL_ahead 51 = .ok (.istore 8, 2) := by decide +kernel
theorem dL_ahead_53 : decode cL_ahead 53 = .ok (.iload 4, 2) := by decide +kernel
theorem dL_ahead_55 : decode cL_ahead 55 = .ok (.ifCond .le 329, 3) := by decide +kernel
theorem dL_ahead_58 : decode cL_ahead 58 = .ok (.iload 6, 2) := by decide +kernel
theorem dL_ahead_60 : decode cL_ahead 60 = .ok (.ifCond .le 324, 3) := by decide +kernel
theorem dL_ahead_63 : decode cL_ahead 63 = .ok (.iload 5, 2) := by decide +kernel
theorem dL_ahead_65 : decode cL_ahead 65 = .ok (.ifCond .eq 319, 3) := by decide +kernel
theorem dL_ahead_68 : decode cL_ahead 68 = .ok (.aload_n 0, 1) := by decide +kernel
theorem dL_ahead_69 : decode cL_ahead 69 = .ok (.invokevirtual 119, 3) := by decide +kernel
theorem dL_ahead_72 : decode cL_ahead 72 = .ok (.istore 9, 2) := by decide +kernel
theorem dL_ahead_74 : decode cL_ahead 74 = .ok (.aload_n 0, 1) := by decide +kernel
theorem dL_ahead_75 : decode cL_ahead 75 = .ok (.iload 6, 2) := by decide +kernel
theorem dL_ahead_77 : decode cL_ahead 77 = .ok (.invokevirtual 46, 3) := by decide +kernel
theorem dL_ahead_80 : decode cL_ahead 80 = .ok (.istore 10, 2) := by decide +kernel
theorem dL_ahead_82 : decode cL_ahead 82 = .ok (.iload 10, 2) := by decide +kernel
theorem dL_ahead_84 : decode cL_ahead 84 = .ok (.ifCond .lt 79, 3) := by decide +kernel
theorem dL_ahead_87 : decode cL_ahead 87 = .ok (.aload_n 0, 1) := by decide +kernel
theorem dL_ahead_88 : decode cL_ahead 88 = .ok (.iconst 0, 1) := by decide +kernel
theorem dL_ahead_89 : decode cL_ahead 89 = .ok (.invokevirtual 21, 3) := by decide +kernel
theorem dL_ahead_92 : decode cL_ahead 92 = .ok (.iload 7, 2) := by decide +kernel
theorem dL_ahead_94 : decode cL_ahead 94 = .ok (.if_icmp .ne 69, 3) := by decide +kernel
theorem dL_ahead_97 : decode cL_ahead 97 = .ok (.aload_n 0, 1) := by decide +kernel
theorem dL_ahead_98 : decode cL_ahead 98 = .ok (.iconst 1, 1) := by decide +kernel
theorem dL_ahead_99 : decode cL_ahead 99 = .ok (.invokevirtual 21, 3) := by decide +kernel
theorem dL_ahead_102 : decode cL_ahead 102 = .ok (.iload 8, 2) := by decide +kernel
theorem dL_ahead_104 : decode cL_ahead 104 = .ok (.if_icmp .ne 59, 3) := by decide +kernel
theorem dL_ahead_107 : decode cL_ahead 107 = .ok (.aload_n 0, 1) := by decide +kernel
theorem dL_ahead_108 : decode cL_ahead 108 = .ok (.invokevirtual 119, 3) := by decide +kernel
theorem dL_ahead_111 : decode cL_ahead 111 = .ok (.iload 9, 2) := by decide +kernel
theorem dL_ahead_113 : decode cL_ahead 113 = .ok (.isub, 1) := by decide +kernel
theorem dL_ahead_114 : decode cL_ahead 114 = .ok (.iload 6, 2) := by decide +kernel
theorem dL_ahead_116 : decode cL_ahead 116 = .ok (.if_icmp .gt 47, 3) := by decide +kernel
theorem dL_ahead_119 : decode cL_ahead 119 = .ok (.aload_n 0, 1) := by decide +kernel
theorem dL_ahead_120 : decode cL_ahead 120 = .ok (.invokevirtual 9, 3) := by decide +kernel
theorem dL_ahead_123 : decode cL_ahead 123 = .ok (.ifCond .eq 20, 3) := by decide +kernel
theorem dL_ahead_126 : decode cL_ahead 126 = .ok (.aload_n 0, 1) := by decide +kernel
theorem dL_ahead_127 : decode cL_ahead 127 = .ok (.iload 6, 2) := by decide +kernel
theorem dL_ahead_129 : decode cL_ahead 129 = .ok (.aload_n 0, 1) := by decide +kernel
theorem dL_ahead_130 : decode cL_ahead 130 = .ok (.invokevirtual 119, 3) := by decide +kernel
theorem dL_ahead_133 : decode cL_ahead 133 = .ok (.iload 9, 2) := by decide +kernel
theorem dL_ahead_135 : decode cL_ahead 135 = .ok (.isub, 1) := by decide +kernel
theorem dL_ahead_136 : decode cL_ahead 136 = .ok (.isub, 1) := by decide +kernel
theorem dL_ahead_137 : decode cL_ahead 137 = .ok (.invokestatic 142, 3) := by decide +kernel
theorem dL_ahead_140 : decode cL_ahead 140 = .ok (.ifCond .eq 23, 3) := by decide +kernel
theorem dL_ahead_143 : decode cL_ahead 143 = .ok (.aload_n 0, 1) := by decide +kernel
theorem dL_ahead_144 : decode cL_ahead 144 = .ok (.invokevirtual 116, 3) := by decide +kernel
theorem dL_ahead_147 : decode cL_ahead 147 = .ok (.ifCond .lt 16, 3) := by decide +kernel
theorem dL_ahead_150 : decode cL_ahead 150 = .ok (.aload_n 0, 1) := by decide +kernel
theorem dL_ahead_151 : decode cL_ahead 151 = .ok (.invokestatic 135, 3) := by decide +kernel
theorem dL_ahead_154 : decode cL_ahead 154 = .ok (.lload_n 2, 1) := by decide +kernel
theorem dL_ahead_155 : decode cL_ahead 155 = .ok (.lcmp, 1) := by decide +kernel
theorem dL_ahead_156 : decode cL_ahead 156 = .ok (.ifCond .ne 7, 3) := by decide +kernel
theorem dL_ahead_159 : decode cL_ahead 159 = .ok (.iconst 1, 1) := by decide +kernel
theorem dL_ahead_160 : decode cL_ahead 160 = .ok (.goto 4, 3) := by decide +kernel
theorem dL_ahead_163 : decode cL_ahead 163 = .ok (.iconst 0, 1) := by decide +kernel
theorem dL_ahead_164 : decode cL_ahead 164 = .ok (.istore 5, 2) := by decide +kernel
theorem dL_ahead_166 : decode cL_ahead 166 = .ok (.iconst 0, 1) := by decide +kernel
theorem dL_ahead_167 : decode cL_ahead 167 = .ok (.istore 11, 2) := by decide +kernel
theorem dL_ahead_169 : decode cL_ahead 169 = .ok (.iload 5, 2) := by decide +kernel
theorem dL_ahead_171 : decode cL_ahead 171 = .ok (.ifCond .eq 77, 3) := by decide +kernel
theorem dL_ahead_174 : decode cL_ahead 174 = .ok (.iload 11, 2) := by decide +kernel
theorem dL_ahead_176 : decode cL_ahead 176 = .ok (.bipush 9, 2) := by decide +kernel
theorem dL_ahead_178 : decode cL_ahead 178 = .ok (.if_icmp .ge 70, 3) := by decide +kernel
theorem dL_ahead_181 : decode cL_ahead 181 = .ok (.aload_n 0, 1) := by decide +kernel
theorem dL_ahead_182 : decode cL_ahead 182 = .ok (.invokevirtual 9, 3) := by decide +kernel
theorem dL_ahead_185 : decode cL_ahead 185 = .ok (.ifCond .le 63, 3) := by decide +kernel
theorem dL_ahead_188 : decode cL_ahead 188 = .ok (.aload_n 0, 1) := by decide +kernel
theorem dL_ahead_189 : decode cL_ahead 189 = .ok (.invokevirtual 119, 3) := by decide +kernel
theorem dL_ahead_192 : decode cL_ahead 192 = .ok (.istore 12, 2) := by decide +kernel
theorem dL_ahead_194 : decode cL_ahead 194 = .ok (.aload_n 0, 1) := by decide +kernel
theorem dL_ahead_195 : decode cL_ahead 195 = .ok (.invokevirtual 92, 3) := by decide +kernel
theorem dL_ahead_198 : decode cL_ahead 198 = .ok (.istore 13, 2) := by decide +kernel
theorem dL_ahead_200 : decode cL_ahead 200 = .ok (.aload_n 0, 1) := by decide +kernel
theorem dL_ahead_201 : decode cL_ahead 201 = .ok (.invokevirtual 89, 3) := by decide +kernel
theorem dL_ahead_204 : decode cL_ahead 204 = .ok (.istore 14, 2) := by decide +kernel
theorem dL_ahead_206 : decode cL_ahead 206 = .ok (.iload 14, 2) := by decide +kernel
theorem dL_ahead_208 : decode cL_ahead 208 = .ok (.ifCond .le 31, 3) := by decide +kernel
theorem dL_ahead_211 : decode cL_ahead 211 = .ok (.aload_n 0, 1) := by decide +kernel
theorem dL_ahead_212 : decode cL_ahead 212 = .ok (.invokevirtual 119, 3) := by decide +kernel
theorem dL_ahead_215 : decode cL_ahead 215 = .ok (.iload 12, 2) := by decide +kernel
theorem dL_ahead_217 : decode cL_ahead 217 = .ok (.iload 14, 2) := by decide +kernel
theorem dL_ahead_219 : decode cL_ahead 219 = .ok (.iadd, 1) := by decide +kernel
theorem dL_ahead_220 : decode cL_ahead 220 = .ok (.if_icmp .ne 19, 3) := by decide +kernel
theorem dL_ahead_223 : decode cL_ahead 223 = .ok (.aload_n 0, 1) := by decide +kernel
theorem dL_ahead_224 : decode cL_ahead 224 = .ok (.invokevirtual 92, 3) := by decide +kernel
theorem dL_ahead_227 : decode cL_ahead 227 = .ok (.iload 13, 2) := by decide +kernel
theorem dL_ahead_229 : decode cL_ahead 229 = .ok (.iload 14, 2) := by decide +kernel
theorem dL_ahead_231 : decode cL_ahead 231 = .ok (.isub, 1) := by decide +kernel
theorem dL_ahead_232 : decode cL_ahead 232 = .ok (.if_icmp .ne 7, 3) := by decide +kernel
theorem dL_ahead_235 : decode cL_ahead 235 = .ok (.iconst 1, 1) := by decide +kernel
theorem dL_ahead_236 : decode cL_ahead 236 = .ok (.goto 4, 3) := by decide +kernel
theorem dL_ahead_239 : decode cL_ahead 239 = .ok (.iconst 0, 1) := by decide +kernel
theorem dL_ahead_240 : decode cL_ahead 240 = .ok (.istore 5, 2) := by decide +kernel
theorem dL_ahead_242 : decode cL_ahead 242 = .ok (.iinc 11 1, 3) := by decide +kernel
theorem dL_ahead_245 : decode cL_ahead 245 = .ok (.goto (-76), 3) := by decide +kernel
theorem dL_ahead_248 : decode cL_ahead 248 = .ok (.iload 5, 2) := by decide +kernel
theorem dL_ahead_250 : decode cL_ahead 250 = .ok (.ifCond .eq 134, 3) := by decide +kernel
theorem dL_ahead_253 : decode cL_ahead 253 = .ok (.aload_n 0, 1) := by decide +kernel
theorem dL_ahead_254 : decode cL_ahead 254 = .ok (.invokevirtual 83, 3) := by decide +kernel
theorem dL_ahead_257 : decode cL_ahead 257 = .ok (.bipush (-9), 2) := by decide +kernel
theorem dL_ahead_259 : decode cL_ahead 259 = .ok (.if_icmp .eq 125, 3) := by decide +kernel
theorem dL_ahead_262 : decode cL_ahead 262 = .ok (.aload_n 0, 1) := by decide +kernel
theorem dL_ahead_263 : decode cL_ahead 263 = .ok (.invokevirtual 83, 3) := by decide +kernel
theorem dL_ahead_266 : decode cL_ahead 266 = .ok (.istore 12, 2) := by decide +kernel
theorem dL_ahead_268 : decode cL_ahead 268 = .ok (.aload_n 0, 1) := by decide +kernel
theorem dL_ahead_269 : decode cL_ahead 269 = .ok (.invokevirtual 86, 3) := by decide +kernel
theorem dL_ahead_272 : decode cL_ahead 272 = .ok (.iload 12, 2) := by decide +kernel
theorem dL_ahead_274 : decode cL_ahead 274 = .ok (.if_icmp .ne 49, 3) := by decide +kernel
theorem dL_ahead_277 : decode cL_ahead 277 = .ok (.iload 12, 2) := by decide +kernel
theorem dL_ahead_279 : decode cL_ahead 279 = .ok (.ifCond .ne 22, 3) := by decide +kernel
theorem dL_ahead_282 : decode cL_ahead 282 = .ok (.aload_n 0, 1) := by decide +kernel
theorem dL_ahead_283 : decode cL_ahead 283 = .ok (.invokevirtual 83, 3) := by decide +kernel
theorem dL_ahead_286 : decode cL_ahead 286 = .ok (.bipush (-9), 2) := by decide +kernel
theorem dL_ahead_288 : decode cL_ahead 288 = .ok (.if_icmp .ne 35, 3) := by decide +kernel
theorem dL_ahead_291 : decode cL_ahead 291 = .ok (.aload_n 0, 1) := by decide +kernel
theorem dL_ahead_292 : decode cL_ahead 292 = .ok (.invokevirtual 9, 3) := by decide +kernel
theorem dL_ahead_295 : decode cL_ahead 295 = .ok (.ifCond .ne 28, 3) := by decide +kernel
theorem dL_ahead_298 : decode cL_ahead 298 = .ok (.goto 21, 3) := by decide +kernel
theorem dL_ahead_301 : decode cL_ahead 301 = .ok (.aload_n 0, 1) := by decide +kernel
theorem dL_ahead_302 : decode cL_ahead 302 = .ok (.iconst 0, 1) := by decide +kernel
theorem dL_ahead_303 : decode cL_ahead 303 = .ok (.invokevirtual 24, 3) := by decide +kernel
theorem dL_ahead_306 : decode cL_ahead 306 = .ok (.iload 12, 2) := by decide +kernel
theorem dL_ahead_308 : decode cL_ahead 308 = .ok (.if_icmp .ne 15, 3) := by decide +kernel
theorem dL_ahead_311 : decode cL_ahead 311 = .ok (.aload_n 0, 1) := by decide +kernel
theorem dL_ahead_312 : decode cL_ahead 312 = .ok (.invokevirtual 9, 3) := by decide +kernel
theorem dL_ahead_315 : decode cL_ahead 315 = .ok (.iconst 1, 1) := by decide +kernel
theorem dL_ahead_316 : decode cL_ahead 316 = .ok (.if_icmp .ne 7, 3) := by decide +kernel
theorem dL_ahead_319 : decode cL_ahead 319 = .ok (.iconst 1, 1) := by decide +kernel
theorem dL_ahead_320 : decode cL_ahead 320 = .ok (.goto 4, 3) := by decide +kernel
theorem dL_ahead_323 : decode cL_ahead 323 = .ok (.iconst 0, 1) := by decide +kernel
theorem dL_ahead_324 : decode cL_ahead 324 = .ok (.istore 5, 2) := by decide +kernel
theorem dL_ahead_326 : decode cL_ahead 326 = .ok (.iload 5, 2) := by decide +kernel
theorem dL_ahead_328 : decode cL_ahead 328 = .ok (.ifCond .eq 56, 3) := by decide +kernel
theorem dL_ahead_331 : decode cL_ahead 331 = .ok (.aload_n 0, 1) := by decide +kernel
theorem dL_ahead_332 : decode cL_ahead 332 = .ok (.invokevirtual 9, 3) := by decide +kernel
theorem dL_ahead_335 : decode cL_ahead 335 = .ok (.ifCond .le 49, 3) := by decide +kernel
theorem dL_ahead_338 : decode cL_ahead 338 = .ok (.iinc 12 (-1), 3) := by decide +kernel
theorem dL_ahead_341 : decode cL_ahead 341 = .ok (.aload_n 0, 1) := by decide +kernel
theorem dL_ahead_342 : decode cL_ahead 342 = .ok (.invokevirtual 89, 3) := by decide +kernel
theorem dL_ahead_345 : decode cL_ahead 345 = .ok (.ifCond .le 33, 3) := by decide +kernel
theorem dL_ahead_348 : decode cL_ahead 348 = .ok (.iload 12, 2) := by decide +kernel
theorem dL_ahead_350 : decode cL_ahead 350 = .ok (.ifCond .ne 15, 3) := by decide +kernel
theorem dL_ahead_353 : decode cL_ahead 353 = .ok (.aload_n 0, 1) := by decide +kernel
theorem dL_ahead_354 : decode cL_ahead 354 = .ok (.invokevirtual 83, 3) := by decide +kernel
theorem dL_ahead_357 : decode cL_ahead 357 = .ok (.bipush (-9), 2) := by decide +kernel
theorem dL_ahead_359 : decode cL_ahead 359 = .ok (.if_icmp .ne 19, 3) := by decide +kernel
theorem dL_ahead_362 : decode cL_ahead 362 = .ok (.goto 12, 3) := by decide +kernel
theorem dL_ahead_365 : decode cL_ahead 365 = .ok (.aload_n 0, 1) := by decide +kernel
theorem dL_ahead_366 : decode cL_ahead 366 = .ok (.invokevirtual 83, 3) := by decide +kernel
theorem dL_ahead_369 : decode cL_ahead 369 = .ok (.iload 12, 2) := by decide +kernel
theorem dL_ahead_371 : decode cL_ahead 371 = .ok (.if_icmp .ne 7, 3) := by decide +kernel
theorem dL_ahead_374 : decode cL_ahead 374 = .ok (.iconst 1, 1) := by decide +kernel
theorem dL_ahead_375 : decode cL_ahead 375 = .ok (.goto 4, 3) := by decide +kernel
theorem dL_ahead_378 : decode cL_ahead 378 = .ok (.iconst 0, 1) := by decide +kernel
theorem dL_ahead_379 : decode cL_ahead 379 = .ok (.istore 5, 2) := by decide +kernel
theorem dL_ahead_381 : decode cL_ahead 381 = .ok (.goto (-55), 3) := by decide +kernel
theorem dL_ahead_384 : decode cL_ahead 384 = .ok (.iload 5, 2) := by decide +kernel
theorem dL_ahead_386 : decode cL_ahead 386 = .ok (.ifCond .eq 35, 3) := by decide +kernel
theorem dL_ahead_389 : decode cL_ahead 389 = .ok (.aload_n 0, 1) := by decide +kernel
theorem dL_ahead_390 : decode cL_ahead 390 = .ok (.iconst 1, 1) := by decide +kernel
theorem dL_ahead_391 : decode cL_ahead 391 = .ok (.invokevirtual 80, 3) := by decide +kernel
theorem dL_ahead_394 : decode cL_ahead 394 = .ok (.iload 4, 2) := by decide +kernel
theorem dL_ahead_396 : decode cL_ahead 396 = .ok (.if_icmp .ne 25, 3) := by decide +kernel
theorem dL_ahead_399 : decode cL_ahead 399 = .ok (.aload_n 0, 1) := by decide +kernel
theorem dL_ahead_400 : decode cL_ahead 400 = .ok (.invokestatic 135, 3) := by decide +kernel
theorem dL_ahead_403 : decode cL_ahead 403 = .ok (.lload_n 2, 1) := by decide +kernel
theorem dL_ahead_404 : decode cL_ahead 404 = .ok (.lcmp, 1) := by decide +kernel
theorem dL_ahead_405 : decode cL_ahead 405 = .ok (.ifCond .ne 16, 3) := by decide +kernel
theorem dL_ahead_408 : decode cL_ahead 408 = .ok (.aload_n 0, 1) := by decide +kernel
theorem dL_ahead_409 : decode cL_ahead 409 = .ok (.invokevirtual 116, 3) := by decide +kernel
theorem dL_ahead_412 : decode cL_ahead 412 = .ok (.bipush (-3), 2) := by decide +kernel
theorem dL_ahead_414 : decode cL_ahead 414 = .ok (.if_icmp .ne 7, 3) := by decide +kernel
theorem dL_ahead_417 : decode cL_ahead 417 = .ok (.iconst 1, 1) := by decide +kernel
theorem dL_ahead_418 : decode cL_ahead 418 = .ok (.goto 4, 3) := by decide +kernel
theorem dL_ahead_421 : decode cL_ahead 421 = .ok (.iconst 0, 1) := by decide +kernel
theorem dL_ahead_422 : decode cL_ahead 422 = .ok (.ireturn, 1) := by decide +kernel
theorem dL_over_0 : decode cL_over 0 = .ok (.aload_n 0, 1) := by decide +kernel
theorem dL_over_1 : decode cL_over 1 = .ok (.invokevirtual 89, 3) := by decide +kernel
theorem dL_over_4 : decode cL_over 4 = .ok (.iload_n 1, 1) := by decide +kernel
theorem dL_over_5 : decode cL_over 5 = .ok (.if_icmp .le 14, 3) := by decide +kernel
theorem dL_over_8 : decode cL_over 8 = .ok (.aload_n 0, 1) := by decide +kernel
theorem dL_over_9 : decode cL_over 9 = .ok (.invokevirtual 116, 3) := by decide +kernel
theorem dL_over_12 : decode cL_over 12 = .ok (.ifCond .lt 7, 3) := by decide +kernel
theorem dL_over_15 : decode cL_over 15 = .ok (.iconst 1, 1) := by decide +kernel
theorem dL_over_16 : decode cL_over 16 = .ok (.goto 4, 3) := by decide +kernel
theorem dL_over_19 : decode cL_over 19 = .ok (.iconst 0, 1) := by decide +kernel
theorem dL_over_20 : decode cL_over 20 = .ok (.ireturn, 1) := by decide +kernel
theorem dL_most_0 : decode cL_most 0 = .ok (.iload_n 0, 1) := by decide +kernel
theorem dL_most_1 : decode cL_most 1 = .ok (.iload_n 1, 1) := by decide +kernel
theorem dL_most_2 : decode cL_most 2 = .ok (.if_icmp .le 7, 3) := by decide +kernel
theorem dL_most_5 : decode cL_most 5 = .ok (.iload_n 0, 1) := by decide +kernel
theorem dL_most_6 : decode cL_most 6 = .ok (.goto 4, 3) := by decide +kernel
theorem dL_most_9 : decode cL_most 9 = .ok (.iload_n 1, 1) := by decide +kernel
theorem dL_most_10 : decode cL_most 10 = .ok (.ireturn, 1) := by decide +kernel
theorem dL_moved_0 : decode cL_moved 0 = .ok (.aload_n 0, 1) := by decide +kernel
theorem dL_moved_1 : decode cL_moved 1 = .ok (.invokevirtual 9, 3) := by decide +kernel
theorem dL_moved_4 : decode cL_moved 4 = .ok (.istore_n 2, 1) := by decide +kernel
theorem dL_moved_5 : decode cL_moved 5 = .ok (.aload_n 0, 1) := by decide +kernel
theorem dL_moved_6 : decode cL_moved 6 = .ok (.invokevirtual 83, 3) := by decide +kernel
theorem dL_moved_9 : decode cL_moved 9 = .ok (.bipush (-9), 2) := by decide +kernel
theorem dL_moved_11 : decode cL_moved 11 = .ok (.if_icmp .ne 31, 3) := by decide +kernel
theorem dL_moved_14 : decode cL_moved 14 = .ok (.iload_n 2, 1) := by decide +kernel
theorem dL_moved_15 : decode cL_moved 15 = .ok (.ifCond .gt 27, 3) := by decide +kernel
theorem dL_moved_18 : decode cL_moved 18 = .ok (.aload_n 0, 1) := by decide +kernel
theorem dL_moved_19 : decode cL_moved 19 = .ok (.iload_n 1, 1) := by decide +kernel
theorem dL_moved_20 : decode cL_moved 20 = .ok (.bipush 61, 2) := by decide +kernel
theorem dL_moved_22 : decode cL_moved 22 = .ok (.irem, 1) := by decide +kernel
theorem dL_moved_23 : decode cL_moved 23 = .ok (.bipush 30, 2) := by decide +kernel
theorem dL_moved_25 : decode cL_moved 25 = .ok (.isub, 1) := by decide +kernel
theorem dL_moved_26 : decode cL_moved 26 = .ok (.iload_n 1, 1) := by decide +kernel
theorem dL_moved_27 : decode cL_moved 27 = .ok (.bipush 61, 2) := by decide +kernel
theorem dL_moved_29 : decode cL_moved 29 = .ok (.idiv, 1) := by decide +kernel
theorem dL_moved_30 : decode cL_moved 30 = .ok (.bipush 41, 2) := by decide +kernel
theorem dL_moved_32 : decode cL_moved 32 = .ok (.irem, 1) := by decide +kernel
theorem dL_moved_33 : decode cL_moved 33 = .ok (.bipush 20, 2) := by decide +kernel
theorem dL_moved_35 : decode cL_moved 35 = .ok (.isub, 1) := by decide +kernel
theorem dL_moved_36 : decode cL_moved 36 = .ok (.invokevirtual 39, 3) := by decide +kernel
theorem dL_moved_39 : decode cL_moved 39 = .ok (.ifCond .ge 5, 3) := by decide +kernel
theorem dL_moved_42 : decode cL_moved 42 = .ok (.iconst 1, 1) := by decide +kernel
theorem dL_moved_43 : decode cL_moved 43 = .ok (.ireturn, 1) := by decide +kernel
theorem dL_moved_44 : decode cL_moved 44 = .ok (.iload_n 1, 1) := by decide +kernel
theorem dL_moved_45 : decode cL_moved 45 = .ok (.bipush 61, 2) := by decide +kernel
theorem dL_moved_47 : decode cL_moved 47 = .ok (.irem, 1) := by decide +kernel
theorem dL_moved_48 : decode cL_moved 48 = .ok (.bipush 30, 2) := by decide +kernel
theorem dL_moved_50 : decode cL_moved 50 = .ok (.isub, 1) := by decide +kernel
theorem dL_moved_51 : decode cL_moved 51 = .ok (.istore_n 3, 1) := by decide +kernel
theorem dL_moved_52 : decode cL_moved 52 = .ok (.iload_n 1, 1) := by decide +kernel
theorem dL_moved_53 : decode cL_moved 53 = .ok (.bipush 61, 2) := by decide +kernel
theorem dL_moved_55 : decode cL_moved 55 = .ok (.idiv, 1) := by decide +kernel
theorem dL_moved_56 : decode cL_moved 56 = .ok (.bipush 41, 2) := by decide +kernel
theorem dL_moved_58 : decode cL_moved 58 = .ok (.irem, 1) := by decide +kernel
theorem dL_moved_59 : decode cL_moved 59 = .ok (.bipush 20, 2) := by decide +kernel
theorem dL_moved_61 : decode cL_moved 61 = .ok (.isub, 1) := by decide +kernel
theorem dL_moved_62 : decode cL_moved 62 = .ok (.istore 4, 2) := by decide +kernel
theorem dL_moved_64 : decode cL_moved 64 = .ok (.iload_n 3, 1) := by decide +kernel
theorem dL_moved_65 : decode cL_moved 65 = .ok (.ifCond .ge 8, 3) := by decide +kernel
theorem dL_moved_68 : decode cL_moved 68 = .ok (.iload_n 3, 1) := by decide +kernel
theorem dL_moved_69 : decode cL_moved 69 = .ok (.ineg, 1) := by decide +kernel
theorem dL_moved_70 : decode cL_moved 70 = .ok (.goto 4, 3) := by decide +kernel
theorem dL_moved_73 : decode cL_moved 73 = .ok (.iload_n 3, 1) := by decide +kernel
theorem dL_moved_74 : decode cL_moved 74 = .ok (.iload 4, 2) := by decide +kernel
theorem dL_moved_76 : decode cL_moved 76 = .ok (.ifCond .ge 9, 3) := by decide +kernel
theorem dL_moved_79 : decode cL_moved 79 = .ok (.iload 4, 2) := by decide +kernel
theorem dL_moved_81 : decode cL_moved 81 = .ok (.ineg, 1) := by decide +kernel
theorem dL_moved_82 : decode cL_moved 82 = .ok (.goto 5, 3) := by decide +kernel
theorem dL_moved_85 : decode cL_moved 85 = .ok (.iload 4, 2) := by decide +kernel
theorem dL_moved_87 : decode cL_moved 87 = .ok (.invokestatic 146, 3) := by decide +kernel
theorem dL_moved_90 : decode cL_moved 90 = .ok (.istore 5, 2) := by decide +kernel
theorem dL_moved_92 : decode cL_moved 92 = .ok (.aload_n 0, 1) := by decide +kernel
theorem dL_moved_93 : decode cL_moved 93 = .ok (.iconst 0, 1) := by decide +kernel
theorem dL_moved_94 : decode cL_moved 94 = .ok (.invokevirtual 21, 3) := by decide +kernel
theorem dL_moved_97 : decode cL_moved 97 = .ok (.istore 6, 2) := by decide +kernel
theorem dL_moved_99 : decode cL_moved 99 = .ok (.aload_n 0, 1) := by decide +kernel
theorem dL_moved_100 : decode cL_moved 100 = .ok (.iconst 1, 1) := by decide +kernel
theorem dL_moved_101 : decode cL_moved 101 = .ok (.invokevirtual 21, 3) := by decide +kernel
theorem dL_moved_104 : decode cL_moved 104 = .ok (.istore 7, 2) := by decide +kernel
theorem dL_moved_106 : decode cL_moved 106 = .ok (.aload_n 0, 1) := by decide +kernel
theorem dL_moved_107 : decode cL_moved 107 = .ok (.iconst 0, 1) := by decide +kernel
theorem dL_moved_108 : decode cL_moved 108 = .ok (.invokevirtual 24, 3) := by decide +kernel
theorem dL_moved_111 : decode cL_moved 111 = .ok (.iload 5, 2) := by decide +kernel
theorem dL_moved_113 : decode cL_moved 113 = .ok (.if_icmp .ne 20, 3) := by decide +kernel
theorem dL_moved_116 : decode cL_moved 116 = .ok (.aload_n 0, 1) := by decide +kernel
theorem dL_moved_117 : decode cL_moved 117 = .ok (.invokevirtual 92, 3) := by decide +kernel
theorem dL_moved_120 : decode cL_moved 120 = .ok (.aload_n 0, 1) := by decide +kernel
theorem dL_moved_121 : decode cL_moved 121 = .ok (.iload 5, 2) := by decide +kernel
theorem dL_moved_123 : decode cL_moved 123 = .ok (.invokevirtual 53, 3) := by decide +kernel
theorem dL_moved_126 : decode cL_moved 126 = .ok (.if_icmp .ne 7, 3) := by decide +kernel
theorem dL_moved_129 : decode cL_moved 129 = .ok (.iconst 1, 1) := by decide +kernel
theorem dL_moved_130 : decode cL_moved 130 = .ok (.goto 4, 3) := by decide +kernel
theorem dL_moved_133 : decode cL_moved 133 = .ok (.iconst 0, 1) := by decide +kernel
theorem dL_moved_134 : decode cL_moved 134 = .ok (.istore 8, 2) := by decide +kernel
theorem dL_moved_136 : decode cL_moved 136 = .ok (.iconst 1, 1) := by decide +kernel
theorem dL_moved_137 : decode cL_moved 137 = .ok (.istore 9, 2) := by decide +kernel
theorem dL_moved_139 : decode cL_moved 139 = .ok (.iload 9, 2) := by decide +kernel
theorem dL_moved_141 : decode cL_moved 141 = .ok (.iload 5, 2) := by decide +kernel
theorem dL_moved_143 : decode cL_moved 143 = .ok (.if_icmp .gt 115, 3) := by decide +kernel
theorem dL_moved_146 : decode cL_moved 146 = .ok (.iload 8, 2) := by decide +kernel
theorem dL_moved_148 : decode cL_moved 148 = .ok (.ifCond .eq 110, 3) := by decide +kernel
theorem dL_moved_151 : decode cL_moved 151 = .ok (.aload_n 0, 1) := by decide +kernel
theorem dL_moved_152 : decode cL_moved 152 = .ok (.invokevirtual 89, 3) := by decide +kernel
theorem dL_moved_155 : decode cL_moved 155 = .ok (.ifCond .le 7, 3) := by decide +kernel
theorem dL_moved_158 : decode cL_moved 158 = .ok (.iconst 1, 1) := by decide +kernel
theorem dL_moved_159 : decode cL_moved 159 = .ok (.goto 4, 3) := by decide +kernel
theorem dL_moved_162 : decode cL_moved 162 = .ok (.iconst 0, 1) := by decide +kernel
theorem dL_moved_163 : decode cL_moved 163 = .ok (.istore 8, 2) := by decide +kernel
theorem dL_moved_165 : decode cL_moved 165 = .ok (.aload_n 0, 1) := by decide +kernel
theorem dL_moved_166 : decode cL_moved 166 = .ok (.iconst 0, 1) := by decide +kernel
theorem dL_moved_167 : decode cL_moved 167 = .ok (.invokevirtual 21, 3) := by decide +kernel
theorem dL_moved_170 : decode cL_moved 170 = .ok (.iload 6, 2) := by decide +kernel
theorem dL_moved_172 : decode cL_moved 172 = .ok (.isub, 1) := by decide +kernel
theorem dL_moved_173 : decode cL_moved 173 = .ok (.iload 5, 2) := by decide +kernel
theorem dL_moved_175 : decode cL_moved 175 = .ok (.imul, 1) := by decide +kernel
theorem dL_moved_176 : decode cL_moved 176 = .ok (.iload 9, 2) := by decide +kernel
theorem dL_moved_178 : decode cL_moved 178 = .ok (.iload_n 3, 1) := by decide +kernel
theorem dL_moved_179 : decode cL_moved 179 = .ok (.imul, 1) := by decide +kernel
theorem dL_moved_180 : decode cL_moved 180 = .ok (.isub, 1) := by decide +kernel
theorem dL_moved_181 : decode cL_moved 181 = .ok (.istore 10, 2) := by decide +kernel
theorem dL_moved_183 : decode cL_moved 183 = .ok (.aload_n 0, 1) := by decide +kernel
theorem dL_moved_184 : decode cL_moved 184 = .ok (.iconst 1, 1) := by decide +kernel
theorem dL_moved_185 : decode cL_moved 185 = .ok (.invokevirtual 21, 3) := by decide +kernel
theorem dL_moved_188 : decode cL_moved 188 = .ok (.iload 7, 2) := by decide +kernel
theorem dL_moved_190 : decode cL_moved 190 = .ok (.isub, 1) := by decide +kernel
theorem dL_moved_191 : decode cL_moved 191 = .ok (.iload 5, 2) := by decide +kernel
theorem dL_moved_193 : decode cL_moved 193 = .ok (.imul, 1) := by decide +kernel
theorem dL_moved_194 : decode cL_moved 194 = .ok (.iload 9, 2) := by decide +kernel
theorem dL_moved_196 : decode cL_moved 196 = .ok (.iload 4, 2) := by decide +kernel
theorem dL_moved_198 : decode cL_moved 198 = .ok (.imul, 1) := by decide +kernel
theorem dL_moved_199 : decode cL_moved 199 = .ok (.isub, 1) := by decide +kernel
theorem dL_moved_200 : decode cL_moved 200 = .ok (.istore 11, 2) := by decide +kernel
theorem dL_moved_202 : decode cL_moved 202 = .ok (.iload 8, 2) := by decide +kernel
theorem dL_moved_204 : decode cL_moved 204 = .ok (.ifCond .eq 45, 3) := by decide +kernel
theorem dL_moved_207 : decode cL_moved 207 = .ok (.iconst 2, 1) := by decide +kernel
theorem dL_moved_208 : decode cL_moved 208 = .ok (.iload 10, 2) := by decide +kernel
theorem dL_moved_210 : decode cL_moved 210 = .ok (.imul, 1) := by decide +kernel
theorem dL_moved_211 : decode cL_moved 211 = .ok (.iload 5, 2) := by decide +kernel
theorem dL_moved_213 : decode cL_moved 213 = .ok (.if_icmp .gt 36, 3) := by decide +kernel
theorem dL_moved_216 : decode cL_moved 216 = .ok (.bipush (-2), 2) := by decide +kernel
theorem dL_moved_218 : decode cL_moved 218 = .ok (.iload 10, 2) := by decide +kernel
theorem dL_moved_220 : decode cL_moved 220 = .ok (.imul, 1) := by decide +kernel
theorem dL_moved_221 : decode cL_moved 221 = .ok (.iload 5, 2) := by decide +kernel
theorem dL_moved_223 : decode cL_moved 223 = .ok (.if_icmp .gt 26, 3) := by decide +kernel
theorem dL_moved_226 : decode cL_moved 226 = .ok (.iconst 2, 1) := by decide +kernel
theorem dL_moved_227 : decode cL_moved 227 = .ok (.iload 11, 2) := by decide +kernel
theorem dL_moved_229 : decode cL_moved 229 = .ok (.imul, 1) := by decide +kernel
theorem dL_moved_230 : decode cL_moved 230 = .ok (.iload 5, 2) := by decide +kernel
theorem dL_moved_232 : decode cL_moved 232 = .ok (.if_icmp .gt 17, 3) := by decide +kernel
theorem dL_moved_235 : decode cL_moved 235 = .ok (.bipush (-2), 2) := by decide +kernel
theorem dL_moved_237 : decode cL_moved 237 = .ok (.iload 11, 2) := by decide +kernel
theorem dL_moved_239 : decode cL_moved 239 = .ok (.imul, 1) := by decide +kernel
theorem dL_moved_240 : decode cL_moved 240 = .ok (.iload 5, 2) := by decide +kernel
theorem dL_moved_242 : decode cL_moved 242 = .ok (.if_icmp .gt 7, 3) := by decide +kernel
theorem dL_moved_245 : decode cL_moved 245 = .ok (.iconst 1, 1) := by decide +kernel
theorem dL_moved_246 : decode cL_moved 246 = .ok (.goto 4, 3) := by decide +kernel
theorem dL_moved_249 : decode cL_moved 249 = .ok (.iconst 0, 1) := by decide +kernel
theorem dL_moved_250 : decode cL_moved 250 = .ok (.istore 8, 2) := by decide +kernel
theorem dL_moved_252 : decode cL_moved 252 = .ok (.iinc 9 1, 3) := by decide +kernel
theorem dL_moved_255 : decode cL_moved 255 = .ok (.goto (-116), 3) := by decide +kernel
theorem dL_moved_258 : decode cL_moved 258 = .ok (.iload 8, 2) := by decide +kernel
theorem dL_moved_260 : decode cL_moved 260 = .ok (.ifCond .eq 39, 3) := by decide +kernel
theorem dL_moved_263 : decode cL_moved 263 = .ok (.aload_n 0, 1) := by decide +kernel
theorem dL_moved_264 : decode cL_moved 264 = .ok (.invokevirtual 9, 3) := by decide +kernel
theorem dL_moved_267 : decode cL_moved 267 = .ok (.ifCond .ne 32, 3) := by decide +kernel
theorem dL_moved_270 : decode cL_moved 270 = .ok (.aload_n 0, 1) := by decide +kernel
theorem dL_moved_271 : decode cL_moved 271 = .ok (.iconst 0, 1) := by decide +kernel
theorem dL_moved_272 : decode cL_moved 272 = .ok (.invokevirtual 21, 3) := by decide +kernel
theorem dL_moved_275 : decode cL_moved 275 = .ok (.iload 6, 2) := by decide +kernel
theorem dL_moved_277 : decode cL_moved 277 = .ok (.iload_n 3, 1) := by decide +kernel
theorem dL_moved_278 : decode cL_moved 278 = .ok (.iadd, 1) := by decide +kernel
theorem dL_moved_279 : decode cL_moved 279 = .ok (.if_icmp .ne 20, 3) := by decide +kernel
theorem dL_moved_282 : decode cL_moved 282 = .ok (.aload_n 0, 1) := by decide +kernel
theorem dL_moved_283 : decode cL_moved 283 = .ok (.iconst 1, 1) := by decide +kernel
theorem dL_moved_284 : decode cL_moved 284 = .ok (.invokevirtual 21, 3) := by decide +kernel
theorem dL_moved_287 : decode cL_moved 287 = .ok (.iload 7, 2) := by decide +kernel
theorem dL_moved_289 : decode cL_moved 289 = .ok (.iload 4, 2) := by decide +kernel
theorem dL_moved_291 : decode cL_moved 291 = .ok (.iadd, 1) := by decide +kernel
theorem dL_moved_292 : decode cL_moved 292 = .ok (.if_icmp .ne 7, 3) := by decide +kernel
theorem dL_moved_295 : decode cL_moved 295 = .ok (.iconst 1, 1) := by decide +kernel
theorem dL_moved_296 : decode cL_moved 296 = .ok (.goto 4, 3) := by decide +kernel
theorem dL_moved_299 : decode cL_moved 299 = .ok (.iconst 0, 1) := by decide +kernel
theorem dL_moved_300 : decode cL_moved 300 = .ok (.ireturn, 1) := by decide +kernel
theorem dL_law_0 : decode cL_law 0 = .ok (.new 10, 3) := by decide +kernel
theorem dL_law_3 : decode cL_law 3 = .ok (.dup, 1) := by decide +kernel
theorem dL_law_4 : decode cL_law 4 = .ok (.invokespecial 149, 3) := by decide +kernel
theorem dL_law_7 : decode cL_law 7 = .ok (.astore_n 1, 1) := by decide +kernel
theorem dL_law_8 : decode cL_law 8 = .ok (.new 10, 3) := by decide +kernel
theorem dL_law_11 : decode cL_law 11 = .ok (.dup, 1) := by decide +kernel
theorem dL_law_12 : decode cL_law 12 = .ok (.invokespecial 149, 3) := by decide +kernel
theorem dL_law_15 : decode cL_law 15 = .ok (.astore_n 2, 1) := by decide +kernel
theorem dL_law_16 : decode cL_law 16 = .ok (.aload_n 2, 1) := by decide +kernel
theorem dL_law_17 : decode cL_law 17 = .ok (.invokestatic 150, 3) := by decide +kernel
theorem dL_law_20 : decode cL_law 20 = .ok (.istore_n 3, 1) := by decide +kernel
theorem dL_law_21 : decode cL_law 21 = .ok (.iconst 0, 1) := by decide +kernel
theorem dL_law_22 : decode cL_law 22 = .ok (.istore 4, 2) := by decide +kernel
theorem dL_law_24 : decode cL_law 24 = .ok (.iload 4, 2) := by decide +kernel
theorem dL_law_26 : decode cL_law 26 = .ok (.bipush 8, 2) := by decide +kernel
theorem dL_law_28 : decode cL_law 28 = .ok (.if_icmp .ge 128, 3) := by decide +kernel
theorem dL_law_31 : decode cL_law 31 = .ok (.iload_n 3, 1) := by decide +kernel
theorem dL_law_32 : decode cL_law 32 = .ok (.ifCond .eq 124, 3) := by decide +kernel
theorem dL_law_35 : decode cL_law 35 = .ok (.aload_n 0, 1) := by decide +kernel
theorem dL_law_36 : decode cL_law 36 = .ok (.iconst 2, 1) := by decide +kernel
theorem dL_law_37 : decode cL_law 37 = .ok (.iload 4, 2) := by decide +kernel
theorem dL_law_39 : decode cL_law 39 = .ok (.imul, 1) := by decide +kernel
theorem dL_law_40 : decode cL_law 40 = .ok (.invokestatic 154, 3) := by decide +kernel
theorem dL_law_43 : decode cL_law 43 = .ok (.istore 5, 2) := by decide +kernel
theorem dL_law_45 : decode cL_law 45 = .ok (.aload_n 0, 1) := by decide +kernel
theorem dL_law_46 : decode cL_law 46 = .ok (.iconst 2, 1) := by decide +kernel
theorem dL_law_47 : decode cL_law 47 = .ok (.iload 4, 2) := by decide +kernel
theorem dL_law_49 : decode cL_law 49 = .ok (.imul, 1) := by decide +kernel
theorem dL_law_50 : decode cL_law 50 = .ok (.iconst 1, 1) := by decide +kernel
theorem dL_law_51 : decode cL_law 51 = .ok (.iadd, 1) := by decide +kernel
theorem dL_law_52 : decode cL_law 52 = .ok (.invokestatic 154, 3) := by decide +kernel
theorem dL_law_55 : decode cL_law 55 = .ok (.istore 6, 2) := by decide +kernel
theorem dL_law_57 : decode cL_law 57 = .ok (.aload_n 1, 1) := by decide +kernel
theorem dL_law_58 : decode cL_law 58 = .ok (.iload 5, 2) := by decide +kernel
theorem dL_law_60 : decode cL_law 60 = .ok (.iload 6, 2) := by decide +kernel
theorem dL_law_62 : decode cL_law 62 = .ok (.invokestatic 158, 3) := by decide +kernel
theorem dL_law_65 : decode cL_law 65 = .ok (.aload_n 2, 1) := by decide +kernel
theorem dL_law_66 : decode cL_law 66 = .ok (.iload 5, 2) := by decide +kernel
theorem dL_law_68 : decode cL_law 68 = .ok (.iload 6, 2) := by decide +kernel
theorem dL_law_70 : decode cL_law 70 = .ok (.invokestatic 158, 3) := by decide +kernel
theorem dL_law_73 : decode cL_law 73 = .ok (.if_icmp .ne 75, 3) := by decide +kernel
theorem dL_law_76 : decode cL_law 76 = .ok (.aload_n 2, 1) := by decide +kernel
theorem dL_law_77 : decode cL_law 77 = .ok (.invokestatic 150, 3) := by decide +kernel
theorem dL_law_80 : decode cL_law 80 = .ok (.ifCond .eq 68, 3) := by decide +kernel
theorem dL_law_83 : decode cL_law 83 = .ok (.aload_n 1, 1) := by decide +kernel
theorem dL_law_84 : decode cL_law 84 = .ok (.aload_n 2, 1) := by decide +kernel
theorem dL_law_85 : decode cL_law 85 = .ok (.invokestatic 161, 3) := by decide +kernel
theorem dL_law_88 : decode cL_law 88 = .ok (.ifCond .eq 60, 3) := by decide +kernel
theorem dL_law_91 : decode cL_law 91 = .ok (.aload_n 1, 1) := by decide +kernel
theorem dL_law_92 : decode cL_law 92 = .ok (.iload 6, 2) := by decide +kernel
theorem dL_law_94 : decode cL_law 94 = .ok (.invokestatic 165, 3) := by decide +kernel
theorem dL_law_97 : decode cL_law 97 = .ok (.ifCond .eq 51, 3) := by decide +kernel
theorem dL_law_100 : decode cL_law 100 = .ok (.aload_n 1, 1) := by decide +kernel
theorem dL_law_101 : decode cL_law 101 = .ok (.iload 6, 2) := by decide +kernel
theorem dL_law_103 : decode cL_law 103 = .ok (.invokestatic 168, 3) := by decide +kernel
theorem dL_law_106 : decode cL_law 106 = .ok (.ifCond .eq 42, 3) := by decide +kernel
theorem dL_law_109 : decode cL_law 109 = .ok (.aload_n 2, 1) := by decide +kernel
theorem dL_law_110 : decode cL_law 110 = .ok (.iload 6, 2) := by decide +kernel
theorem dL_law_112 : decode cL_law 112 = .ok (.invokestatic 168, 3) := by decide +kernel
theorem dL_law_115 : decode cL_law 115 = .ok (.ifCond .eq 33, 3) := by decide +kernel
theorem dL_law_118 : decode cL_law 118 = .ok (.aload_n 1, 1) := by decide +kernel
theorem dL_law_119 : decode cL_law 119 = .ok (.iload 6, 2) := by decide +kernel
theorem dL_law_121 : decode cL_law 121 = .ok (.invokestatic 171, 3) := by decide +kernel
theorem dL_law_124 : decode cL_law 124 = .ok (.ifCond .eq 24, 3) := by decide +kernel
theorem dL_law_127 : decode cL_law 127 = .ok (.aload_n 2, 1) := by decide +kernel
theorem dL_law_128 : decode cL_law 128 = .ok (.iload 6, 2) := by decide +kernel
theorem dL_law_130 : decode cL_law 130 = .ok (.invokestatic 171, 3) := by decide +kernel
theorem dL_law_133 : decode cL_law 133 = .ok (.ifCond .eq 15, 3) := by decide +kernel
theorem dL_law_136 : decode cL_law 136 = .ok (.aload_n 1, 1) := by decide +kernel
theorem dL_law_137 : decode cL_law 137 = .ok (.aload_n 2, 1) := by decide +kernel
theorem dL_law_138 : decode cL_law 138 = .ok (.invokestatic 161, 3) := by decide +kernel
theorem dL_law_141 : decode cL_law 141 = .ok (.ifCond .eq 7, 3) := by decide +kernel
theorem dL_law_144 : decode cL_law 144 = .ok (.iconst 1, 1) := by decide +kernel
theorem dL_law_145 : decode cL_law 145 = .ok (.goto 4, 3) := by decide +kernel
theorem dL_law_148 : decode cL_law 148 = .ok (.iconst 0, 1) := by decide +kernel
theorem dL_law_149 : decode cL_law 149 = .ok (.istore_n 3, 1) := by decide +kernel
theorem dL_law_150 : decode cL_law 150 = .ok (.iinc 4 1, 3) := by decide +kernel
theorem dL_law_153 : decode cL_law 153 = .ok (.goto (-129), 3) := by decide +kernel
theorem dL_law_156 : decode cL_law 156 = .ok (.iload_n 3, 1) := by decide +kernel
theorem dL_law_157 : decode cL_law 157 = .ok (.ireturn, 1) := by decide +kernel
