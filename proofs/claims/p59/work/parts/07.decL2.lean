theorem dL_does_349 : decode cL_does 349 = .ok (.iconst 4, 1) := by decide +kernel
theorem dL_does_350 : decode cL_does 350 = .ok (.irem, 1) := by decide +kernel
theorem dL_does_351 : decode cL_does 351 = .ok (.ifCond .ne 41, 3) := by decide +kernel
theorem dL_does_354 : decode cL_does 354 = .ok (.new 251, 3) := by decide +kernel
theorem dL_does_357 : decode cL_does 357 = .ok (.dup, 1) := by decide +kernel
theorem dL_does_358 : decode cL_does 358 = .ok (.invokespecial 253, 3) := by decide +kernel
theorem dL_does_361 : decode cL_does 361 = .ok (.ldc_w 263, 3) := by decide +kernel
theorem dL_does_364 : decode cL_does 364 = .ok (.invokevirtual 256, 3) := by decide +kernel
theorem dL_does_367 : decode cL_does 367 = .ok (.iload 8, 2) := by decide +kernel
theorem dL_does_369 : decode cL_does 369 = .ok (.invokevirtual 260, 3) := by decide +kernel
theorem dL_does_372 : decode cL_does 372 = .ok (.ldc_w 265, 3) := by decide +kernel
theorem dL_does_375 : decode cL_does 375 = .ok (.invokevirtual 256, 3) := by decide +kernel
theorem dL_does_378 : decode cL_does 378 = .ok (.iload 6, 2) := by decide +kernel
theorem dL_does_380 : decode cL_does 380 = .ok (.bipush 20, 2) := by decide +kernel
theorem dL_does_382 : decode cL_does 382 = .ok (.irem, 1) := by decide +kernel
theorem dL_does_383 : decode cL_does 383 = .ok (.invokevirtual 260, 3) := by decide +kernel
theorem dL_does_386 : decode cL_does 386 = .ok (.invokevirtual 267, 3) := by decide +kernel
theorem dL_does_389 : decode cL_does 389 = .ok (.goto 70, 3) := by decide +kernel
theorem dL_does_392 : decode cL_does 392 = .ok (.iload 6, 2) := by decide +kernel
theorem dL_does_394 : decode cL_does 394 = .ok (.iconst 4, 1) := by decide +kernel
theorem dL_does_395 : decode cL_does 395 = .ok (.irem, 1) := by decide +kernel
theorem dL_does_396 : decode cL_does 396 = .ok (.iconst 1, 1) := by decide +kernel
theorem dL_does_397 : decode cL_does 397 = .ok (.if_icmp .ne 27, 3) := by decide +kernel
theorem dL_does_400 : decode cL_does 400 = .ok (.new 251, 3) := by decide +kernel
theorem dL_does_403 : decode cL_does 403 = .ok (.dup, 1) := by decide +kernel
theorem dL_does_404 : decode cL_does 404 = .ok (.invokespecial 253, 3) := by decide +kernel
theorem dL_does_407 : decode cL_does 407 = .ok (.ldc_w 271, 3) := by decide +kernel
theorem dL_does_410 : decode cL_does 410 = .ok (.invokevirtual 256, 3) := by decide +kernel
theorem dL_does_413 : decode cL_does 413 = .ok (.iload 4, 2) := by decide +kernel
theorem dL_does_415 : decode cL_does 415 = .ok (.invokevirtual 260, 3) := by decide +kernel
theorem dL_does_418 : decode cL_does 418 = .ok (.invokevirtual 267, 3) := by decide +kernel
theorem dL_does_421 : decode cL_does 421 = .ok (.goto 38, 3) := by decide +kernel
theorem dL_does_424 : decode cL_does 424 = .ok (.iload 6, 2) := by decide +kernel
theorem dL_does_426 : decode cL_does 426 = .ok (.iconst 4, 1) := by decide +kernel
theorem dL_does_427 : decode cL_does 427 = .ok (.irem, 1) := by decide +kernel
theorem dL_does_428 : decode cL_does 428 = .ok (.iconst 2, 1) := by decide +kernel
theorem dL_does_429 : decode cL_does 429 = .ok (.if_icmp .ne 27, 3) := by decide +kernel
theorem dL_does_432 : decode cL_does 432 = .ok (.new 251, 3) := by decide +kernel
theorem dL_does_435 : decode cL_does 435 = .ok (.dup, 1) := by decide +kernel
theorem dL_does_436 : decode cL_does 436 = .ok (.invokespecial 253, 3) := by decide +kernel
theorem dL_does_439 : decode cL_does 439 = .ok (.ldc_w 273, 3) := by decide +kernel
theorem dL_does_442 : decode cL_does 442 = .ok (.invokevirtual 256, 3) := by decide +kernel
theorem dL_does_445 : decode cL_does 445 = .ok (.iload 8, 2) := by decide +kernel
theorem dL_does_447 : decode cL_does 447 = .ok (.invokevirtual 260, 3) := by decide +kernel
theorem dL_does_450 : decode cL_does 450 = .ok (.invokevirtual 267, 3) := by decide +kernel
theorem dL_does_453 : decode cL_does 453 = .ok (.goto 6, 3) := by decide +kernel
theorem dL_does_456 : decode cL_does 456 = .ok (.ldc_w 275, 3) := by decide +kernel
theorem dL_does_459 : decode cL_does 459 = .ok (.invokevirtual 256, 3) := by decide +kernel
theorem dL_does_462 : decode cL_does 462 = .ok (.invokevirtual 267, 3) := by decide +kernel
theorem dL_does_465 : decode cL_does 465 = .ok (.invokestatic 277, 3) := by decide +kernel
theorem dL_does_468 : decode cL_does 468 = .ok (.ireturn, 1) := by decide +kernel
theorem dL_sum_0 : decode cL_sum 0 = .ok (.ldc2_w 281, 3) := by decide +kernel
theorem dL_sum_3 : decode cL_sum 3 = .ok (.aload_n 0, 1) := by decide +kernel
theorem dL_sum_4 : decode cL_sum 4 = .ok (.invokevirtual 207, 3) := by decide +kernel
theorem dL_sum_7 : decode cL_sum 7 = .ok (.i2l, 1) := by decide +kernel
theorem dL_sum_8 : decode cL_sum 8 = .ok (.lmul, 1) := by decide +kernel
theorem dL_sum_9 : decode cL_sum 9 = .ok (.aload_n 0, 1) := by decide +kernel
theorem dL_sum_10 : decode cL_sum 10 = .ok (.invokevirtual 283, 3) := by decide +kernel
theorem dL_sum_13 : decode cL_sum 13 = .ok (.i2l, 1) := by decide +kernel
theorem dL_sum_14 : decode cL_sum 14 = .ok (.ladd, 1) := by decide +kernel
theorem dL_sum_15 : decode cL_sum 15 = .ok (.lstore_n 1, 1) := by decide +kernel
theorem dL_sum_16 : decode cL_sum 16 = .ok (.ldc2_w 281, 3) := by decide +kernel
theorem dL_sum_19 : decode cL_sum 19 = .ok (.lload_n 1, 1) := by decide +kernel
theorem dL_sum_20 : decode cL_sum 20 = .ok (.lmul, 1) := by decide +kernel
theorem dL_sum_21 : decode cL_sum 21 = .ok (.ldc2_w 286, 3) := by decide +kernel
theorem dL_sum_24 : decode cL_sum 24 = .ok (.aload_n 0, 1) := by decide +kernel
theorem dL_sum_25 : decode cL_sum 25 = .ok (.invokevirtual 288, 3) := by decide +kernel
theorem dL_sum_28 : decode cL_sum 28 = .ok (.i2l, 1) := by decide +kernel
theorem dL_sum_29 : decode cL_sum 29 = .ok (.lmul, 1) := by decide +kernel
theorem dL_sum_30 : decode cL_sum 30 = .ok (.ladd, 1) := by decide +kernel
theorem dL_sum_31 : decode cL_sum 31 = .ok (.ldc2_w 291, 3) := by decide +kernel
theorem dL_sum_34 : decode cL_sum 34 = .ok (.aload_n 0, 1) := by decide +kernel
theorem dL_sum_35 : decode cL_sum 35 = .ok (.invokevirtual 293, 3) := by decide +kernel
theorem dL_sum_38 : decode cL_sum 38 = .ok (.i2l, 1) := by decide +kernel
theorem dL_sum_39 : decode cL_sum 39 = .ok (.lmul, 1) := by decide +kernel
theorem dL_sum_40 : decode cL_sum 40 = .ok (.ladd, 1) := by decide +kernel
theorem dL_sum_41 : decode cL_sum 41 = .ok (.ldc2_w 296, 3) := by decide +kernel
theorem dL_sum_44 : decode cL_sum 44 = .ok (.aload_n 0, 1) := by decide +kernel
theorem dL_sum_45 : decode cL_sum 45 = .ok (.invokevirtual 213, 3) := by decide +kernel
theorem dL_sum_48 : decode cL_sum 48 = .ok (.i2l, 1) := by decide +kernel
theorem dL_sum_49 : decode cL_sum 49 = .ok (.lmul, 1) := by decide +kernel
theorem dL_sum_50 : decode cL_sum 50 = .ok (.ladd, 1) := by decide +kernel
theorem dL_sum_51 : decode cL_sum 51 = .ok (.aload_n 0, 1) := by decide +kernel
theorem dL_sum_52 : decode cL_sum 52 = .ok (.invokevirtual 216, 3) := by decide +kernel
theorem dL_sum_55 : decode cL_sum 55 = .ok (.i2l, 1) := by decide +kernel
theorem dL_sum_56 : decode cL_sum 56 = .ok (.ladd, 1) := by decide +kernel
theorem dL_sum_57 : decode cL_sum 57 = .ok (.lstore_n 1, 1) := by decide +kernel
theorem dL_sum_58 : decode cL_sum 58 = .ok (.ldc2_w 281, 3) := by decide +kernel
theorem dL_sum_61 : decode cL_sum 61 = .ok (.lload_n 1, 1) := by decide +kernel
theorem dL_sum_62 : decode cL_sum 62 = .ok (.lmul, 1) := by decide +kernel
theorem dL_sum_63 : decode cL_sum 63 = .ok (.ldc2_w 296, 3) := by decide +kernel
theorem dL_sum_66 : decode cL_sum 66 = .ok (.aload_n 0, 1) := by decide +kernel
theorem dL_sum_67 : decode cL_sum 67 = .ok (.invokevirtual 204, 3) := by decide +kernel
theorem dL_sum_70 : decode cL_sum 70 = .ok (.i2l, 1) := by decide +kernel
theorem dL_sum_71 : decode cL_sum 71 = .ok (.lmul, 1) := by decide +kernel
theorem dL_sum_72 : decode cL_sum 72 = .ok (.ladd, 1) := by decide +kernel
theorem dL_sum_73 : decode cL_sum 73 = .ok (.aload_n 0, 1) := by decide +kernel
theorem dL_sum_74 : decode cL_sum 74 = .ok (.invokevirtual 210, 3) := by decide +kernel
theorem dL_sum_77 : decode cL_sum 77 = .ok (.i2l, 1) := by decide +kernel
theorem dL_sum_78 : decode cL_sum 78 = .ok (.ladd, 1) := by decide +kernel
theorem dL_sum_79 : decode cL_sum 79 = .ok (.lstore_n 1, 1) := by decide +kernel
theorem dL_sum_80 : decode cL_sum 80 = .ok (.iconst 0, 1) := by decide +kernel
theorem dL_sum_81 : decode cL_sum 81 = .ok (.istore_n 3, 1) := by decide +kernel
theorem dL_sum_82 : decode cL_sum 82 = .ok (.iload_n 3, 1) := by decide +kernel
theorem dL_sum_83 : decode cL_sum 83 = .ok (.aload_n 0, 1) := by decide +kernel
theorem dL_sum_84 : decode cL_sum 84 = .ok (.invokevirtual 231, 3) := by decide +kernel
theorem dL_sum_87 : decode cL_sum 87 = .ok (.if_icmp .ge 80, 3) := by decide +kernel
theorem dL_sum_90 : decode cL_sum 90 = .ok (.ldc2_w 281, 3) := by decide +kernel
theorem dL_sum_93 : decode cL_sum 93 = .ok (.lload_n 1, 1) := by decide +kernel
theorem dL_sum_94 : decode cL_sum 94 = .ok (.lmul, 1) := by decide +kernel
theorem dL_sum_95 : decode cL_sum 95 = .ok (.ldc2_w 296, 3) := by decide +kernel
theorem dL_sum_98 : decode cL_sum 98 = .ok (.aload_n 0, 1) := by decide +kernel
theorem dL_sum_99 : decode cL_sum 99 = .ok (.iload_n 3, 1) := by decide +kernel
theorem dL_sum_100 : decode cL_sum 100 = .ok (.invokestatic 298, 3) := by decide +kernel
theorem dL_sum_103 : decode cL_sum 103 = .ok (.i2l, 1) := by decide +kernel
theorem dL_sum_104 : decode cL_sum 104 = .ok (.lmul, 1) := by decide +kernel
theorem dL_sum_105 : decode cL_sum 105 = .ok (.ladd, 1) := by decide +kernel
theorem dL_sum_106 : decode cL_sum 106 = .ok (.aload_n 0, 1) := by decide +kernel
theorem dL_sum_107 : decode cL_sum 107 = .ok (.iload_n 3, 1) := by decide +kernel
theorem dL_sum_108 : decode cL_sum 108 = .ok (.invokestatic 300, 3) := by decide +kernel
theorem dL_sum_111 : decode cL_sum 111 = .ok (.i2l, 1) := by decide +kernel
theorem dL_sum_112 : decode cL_sum 112 = .ok (.ladd, 1) := by decide +kernel
theorem dL_sum_113 : decode cL_sum 113 = .ok (.lstore_n 1, 1) := by decide +kernel
theorem dL_sum_114 : decode cL_sum 114 = .ok (.ldc2_w 281, 3) := by decide +kernel
theorem dL_sum_117 : decode cL_sum 117 = .ok (.lload_n 1, 1) := by decide +kernel
theorem dL_sum_118 : decode cL_sum 118 = .ok (.lmul, 1) := by decide +kernel
theorem dL_sum_119 : decode cL_sum 119 = .ok (.aload_n 0, 1) := by decide +kernel
theorem dL_sum_120 : decode cL_sum 120 = .ok (.iload_n 3, 1) := by decide +kernel
theorem dL_sum_121 : decode cL_sum 121 = .ok (.invokestatic 302, 3) := by decide +kernel
theorem dL_sum_124 : decode cL_sum 124 = .ok (.i2l, 1) := by decide +kernel
theorem dL_sum_125 : decode cL_sum 125 = .ok (.ladd, 1) := by decide +kernel
theorem dL_sum_126 : decode cL_sum 126 = .ok (.lstore_n 1, 1) := by decide +kernel
theorem dL_sum_127 : decode cL_sum 127 = .ok (.iconst 0, 1) := by decide +kernel
theorem dL_sum_128 : decode cL_sum 128 = .ok (.istore 4, 2) := by decide +kernel
theorem dL_sum_130 : decode cL_sum 130 = .ok (.iload 4, 2) := by decide +kernel
theorem dL_sum_132 : decode cL_sum 132 = .ok (.aload_n 0, 1) := by decide +kernel
theorem dL_sum_133 : decode cL_sum 133 = .ok (.iload_n 3, 1) := by decide +kernel
theorem dL_sum_134 : decode cL_sum 134 = .ok (.invokestatic 304, 3) := by decide +kernel
theorem dL_sum_137 : decode cL_sum 137 = .ok (.if_icmp .ge 24, 3) := by decide +kernel
theorem dL_sum_140 : decode cL_sum 140 = .ok (.ldc2_w 281, 3) := by decide +kernel
theorem dL_sum_143 : decode cL_sum 143 = .ok (.lload_n 1, 1) := by decide +kernel
theorem dL_sum_144 : decode cL_sum 144 = .ok (.lmul, 1) := by decide +kernel
theorem dL_sum_145 : decode cL_sum 145 = .ok (.aload_n 0, 1) := by decide +kernel
theorem dL_sum_146 : decode cL_sum 146 = .ok (.iload_n 3, 1) := by decide +kernel
theorem dL_sum_147 : decode cL_sum 147 = .ok (.iload 4, 2) := by decide +kernel
theorem dL_sum_149 : decode cL_sum 149 = .ok (.invokestatic 306, 3) := by decide +kernel
theorem dL_sum_152 : decode cL_sum 152 = .ok (.i2l, 1) := by decide +kernel
theorem dL_sum_153 : decode cL_sum 153 = .ok (.ladd, 1) := by decide +kernel
theorem dL_sum_154 : decode cL_sum 154 = .ok (.lstore_n 1, 1) := by decide +kernel
theorem dL_sum_155 : decode cL_sum 155 = .ok (.iinc 4 1, 3) := by decide +kernel
theorem dL_sum_158 : decode cL_sum 158 = .ok (.goto (-28), 3) := by decide +kernel
theorem dL_sum_161 : decode cL_sum 161 = .ok (.iinc 3 1, 3) := by decide +kernel
theorem dL_sum_164 : decode cL_sum 164 = .ok (.goto (-82), 3) := by decide +kernel
theorem dL_sum_167 : decode cL_sum 167 = .ok (.iconst 0, 1) := by decide +kernel
theorem dL_sum_168 : decode cL_sum 168 = .ok (.istore_n 3, 1) := by decide +kernel
theorem dL_sum_169 : decode cL_sum 169 = .ok (.iload_n 3, 1) := by decide +kernel
theorem dL_sum_170 : decode cL_sum 170 = .ok (.aload_n 0, 1) := by decide +kernel
theorem dL_sum_171 : decode cL_sum 171 = .ok (.invokevirtual 308, 3) := by decide +kernel
theorem dL_sum_174 : decode cL_sum 174 = .ok (.if_icmp .ge 33, 3) := by decide +kernel
theorem dL_sum_177 : decode cL_sum 177 = .ok (.ldc2_w 281, 3) := by decide +kernel
theorem dL_sum_180 : decode cL_sum 180 = .ok (.lload_n 1, 1) := by decide +kernel
theorem dL_sum_181 : decode cL_sum 181 = .ok (.lmul, 1) := by decide +kernel
theorem dL_sum_182 : decode cL_sum 182 = .ok (.ldc2_w 296, 3) := by decide +kernel
theorem dL_sum_185 : decode cL_sum 185 = .ok (.aload_n 0, 1) := by decide +kernel
theorem dL_sum_186 : decode cL_sum 186 = .ok (.iload_n 3, 1) := by decide +kernel
theorem dL_sum_187 : decode cL_sum 187 = .ok (.invokestatic 311, 3) := by decide +kernel
theorem dL_sum_190 : decode cL_sum 190 = .ok (.i2l, 1) := by decide +kernel
theorem dL_sum_191 : decode cL_sum 191 = .ok (.lmul, 1) := by decide +kernel
theorem dL_sum_192 : decode cL_sum 192 = .ok (.ladd, 1) := by decide +kernel
theorem dL_sum_193 : decode cL_sum 193 = .ok (.aload_n 0, 1) := by decide +kernel
theorem dL_sum_194 : decode cL_sum 194 = .ok (.iload_n 3, 1) := by decide +kernel
theorem dL_sum_195 : decode cL_sum 195 = .ok (.invokestatic 313, 3) := by decide +kernel
theorem dL_sum_198 : decode cL_sum 198 = .ok (.i2l, 1) := by decide +kernel
theorem dL_sum_199 : decode cL_sum 199 = .ok (.ladd, 1) := by decide +kernel
theorem dL_sum_200 : decode cL_sum 200 = .ok (.lstore_n 1, 1) := by decide +kernel
theorem dL_sum_201 : decode cL_sum 201 = .ok (.iinc 3 1, 3) := by decide +kernel
theorem dL_sum_204 : decode cL_sum 204 = .ok (.goto (-35), 3) := by decide +kernel
theorem dL_sum_207 : decode cL_sum 207 = .ok (.iconst 0, 1) := by decide +kernel
theorem dL_sum_208 : decode cL_sum 208 = .ok (.istore_n 3, 1) := by decide +kernel
theorem dL_sum_209 : decode cL_sum 209 = .ok (.iload_n 3, 1) := by decide +kernel
theorem dL_sum_210 : decode cL_sum 210 = .ok (.aload_n 0, 1) := by decide +kernel
theorem dL_sum_211 : decode cL_sum 211 = .ok (.invokevirtual 193, 3) := by decide +kernel
theorem dL_sum_214 : decode cL_sum 214 = .ok (.if_icmp .ge 88, 3) := by decide +kernel
theorem dL_sum_217 : decode cL_sum 217 = .ok (.aload_n 0, 1) := by decide +kernel
theorem dL_sum_218 : decode cL_sum 218 = .ok (.iload_n 3, 1) := by decide +kernel
theorem dL_sum_219 : decode cL_sum 219 = .ok (.invokestatic 196, 3) := by decide +kernel
theorem dL_sum_222 : decode cL_sum 222 = .ok (.istore 4, 2) := by decide +kernel
theorem dL_sum_224 : decode cL_sum 224 = .ok (.ldc2_w 281, 3) := by decide +kernel
theorem dL_sum_227 : decode cL_sum 227 = .ok (.lload_n 1, 1) := by decide +kernel
theorem dL_sum_228 : decode cL_sum 228 = .ok (.lmul, 1) := by decide +kernel
theorem dL_sum_229 : decode cL_sum 229 = .ok (.ldc2_w 291, 3) := by decide +kernel
theorem dL_sum_232 : decode cL_sum 232 = .ok (.iload 4, 2) := by decide +kernel
theorem dL_sum_234 : decode cL_sum 234 = .ok (.i2l, 1) := by decide +kernel
theorem dL_sum_235 : decode cL_sum 235 = .ok (.lmul, 1) := by decide +kernel
theorem dL_sum_236 : decode cL_sum 236 = .ok (.ladd, 1) := by decide +kernel
theorem dL_sum_237 : decode cL_sum 237 = .ok (.ldc2_w 296, 3) := by decide +kernel
theorem dL_sum_240 : decode cL_sum 240 = .ok (.aload_n 0, 1) := by decide +kernel
theorem dL_sum_241 : decode cL_sum 241 = .ok (.iload 4, 2) := by decide +kernel
theorem dL_sum_243 : decode cL_sum 243 = .ok (.invokestatic 315, 3) := by decide +kernel
theorem dL_sum_246 : decode cL_sum 246 = .ok (.i2l, 1) := by decide +kernel
theorem dL_sum_247 : decode cL_sum 247 = .ok (.lmul, 1) := by decide +kernel
theorem dL_sum_248 : decode cL_sum 248 = .ok (.ladd, 1) := by decide +kernel
theorem dL_sum_249 : decode cL_sum 249 = .ok (.aload_n 0, 1) := by decide +kernel
theorem dL_sum_250 : decode cL_sum 250 = .ok (.iload 4, 2) := by decide +kernel
theorem dL_sum_252 : decode cL_sum 252 = .ok (.invokestatic 317, 3) := by decide +kernel
theorem dL_sum_255 : decode cL_sum 255 = .ok (.i2l, 1) := by decide +kernel
theorem dL_sum_256 : decode cL_sum 256 = .ok (.ladd, 1) := by decide +kernel
theorem dL_sum_257 : decode cL_sum 257 = .ok (.lstore_n 1, 1) := by decide +kernel
theorem dL_sum_258 : decode cL_sum 258 = .ok (.ldc2_w 281, 3) := by decide +kernel
theorem dL_sum_261 : decode cL_sum 261 = .ok (.lload_n 1, 1) := by decide +kernel
theorem dL_sum_262 : decode cL_sum 262 = .ok (.lmul, 1) := by decide +kernel
theorem dL_sum_263 : decode cL_sum 263 = .ok (.ldc2_w 296, 3) := by decide +kernel
theorem dL_sum_266 : decode cL_sum 266 = .ok (.aload_n 0, 1) := by decide +kernel
theorem dL_sum_267 : decode cL_sum 267 = .ok (.iload 4, 2) := by decide +kernel
theorem dL_sum_269 : decode cL_sum 269 = .ok (.invokestatic 319, 3) := by decide +kernel
theorem dL_sum_272 : decode cL_sum 272 = .ok (.i2l, 1) := by decide +kernel
theorem dL_sum_273 : decode cL_sum 273 = .ok (.lmul, 1) := by decide +kernel
theorem dL_sum_274 : decode cL_sum 274 = .ok (.ladd, 1) := by decide +kernel
theorem dL_sum_275 : decode cL_sum 275 = .ok (.aload_n 0, 1) := by decide +kernel
theorem dL_sum_276 : decode cL_sum 276 = .ok (.iload 4, 2) := by decide +kernel
theorem dL_sum_278 : decode cL_sum 278 = .ok (.invokestatic 200, 3) := by decide +kernel
theorem dL_sum_281 : decode cL_sum 281 = .ok (.i2l, 1) := by decide +kernel
theorem dL_sum_282 : decode cL_sum 282 = .ok (.ladd, 1) := by decide +kernel
theorem dL_sum_283 : decode cL_sum 283 = .ok (.ldc2_w 321, 3) := by decide +kernel
theorem dL_sum_286 : decode cL_sum 286 = .ok (.aload_n 0, 1) := by decide +kernel
theorem dL_sum_287 : decode cL_sum 287 = .ok (.iload 4, 2) := by decide +kernel
theorem dL_sum_289 : decode cL_sum 289 = .ok (.invokestatic 202, 3) := by decide +kernel
theorem dL_sum_292 : decode cL_sum 292 = .ok (.i2l, 1) := by decide +kernel
theorem dL_sum_293 : decode cL_sum 293 = .ok (.lmul, 1) := by decide +kernel
theorem dL_sum_294 : decode cL_sum 294 = .ok (.ladd, 1) := by decide +kernel
theorem dL_sum_295 : decode cL_sum 295 = .ok (.lstore_n 1, 1) := by decide +kernel
theorem dL_sum_296 : decode cL_sum 296 = .ok (.iinc 3 1, 3) := by decide +kernel
theorem dL_sum_299 : decode cL_sum 299 = .ok (.goto (-90), 3) := by decide +kernel
theorem dL_sum_302 : decode cL_sum 302 = .ok (.lload_n 1, 1) := by decide +kernel
theorem dL_sum_303 : decode cL_sum 303 = .ok (.lreturn, 1) := by decide +kernel
theorem dL_isMessage_0 : decode cL_isMessage 0 = .ok (.aload_n 0, 1) := by decide +kernel
theorem dL_isMessage_1 : decode cL_isMessage 1 = .ok (.iload_n 1, 1) := by decide +kernel
theorem dL_isMessage_2 : decode cL_isMessage 2 = .ok (.invokestatic 196, 3) := by decide +kernel
theorem dL_isMessage_5 : decode cL_isMessage 5 = .ok (.istore_n 2, 1) := by decide +kernel
theorem dL_isMessage_6 : decode cL_isMessage 6 = .ok (.aload_n 0, 1) := by decide +kernel
theorem dL_isMessage_7 : decode cL_isMessage 7 = .ok (.iload_n 2, 1) := by decide +kernel
theorem dL_isMessage_8 : decode cL_isMessage 8 = .ok (.invokestatic 315, 3) := by decide +kernel
theorem dL_isMessage_11 : decode cL_isMessage 11 = .ok (.istore_n 3, 1) := by decide +kernel
theorem dL_isMessage_12 : decode cL_isMessage 12 = .ok (.aload_n 0, 1) := by decide +kernel
theorem dL_isMessage_13 : decode cL_isMessage 13 = .ok (.iload_n 2, 1) := by decide +kernel
theorem dL_isMessage_14 : decode cL_isMessage 14 = .ok (.invokestatic 200, 3) := by decide +kernel
theorem dL_isMessage_17 : decode cL_isMessage 17 = .ok (.istore 4, 2) := by decide +kernel
theorem dL_isMessage_19 : decode cL_isMessage 19 = .ok (.aload_n 0, 1) := by decide +kernel
theorem dL_isMessage_20 : decode cL_isMessage 20 = .ok (.iload_n 2, 1) := by decide +kernel
theorem dL_isMessage_21 : decode cL_isMessage 21 = .ok (.invokestatic 319, 3) := by decide +kernel
theorem dL_isMessage_24 : decode cL_isMessage 24 = .ok (.istore 5, 2) := by decide +kernel
theorem dL_isMessage_26 : decode cL_isMessage 26 = .ok (.iconst (-1), 1) := by decide +kernel
theorem dL_isMessage_27 : decode cL_isMessage 27 = .ok (.istore 6, 2) := by decide +kernel
theorem dL_isMessage_29 : decode cL_isMessage 29 = .ok (.iconst (-1), 1) := by decide +kernel
theorem dL_isMessage_30 : decode cL_isMessage 30 = .ok (.istore 7, 2) := by decide +kernel
theorem dL_isMessage_32 : decode cL_isMessage 32 = .ok (.iconst 0, 1) := by decide +kernel
theorem dL_isMessage_33 : decode cL_isMessage 33 = .ok (.istore 8, 2) := by decide +kernel
theorem dL_isMessage_35 : decode cL_isMessage 35 = .ok (.iload 8, 2) := by decide +kernel
theorem dL_isMessage_37 : decode cL_isMessage 37 = .ok (.aload_n 0, 1) := by decide +kernel
theorem dL_isMessage_38 : decode cL_isMessage 38 = .ok (.iload_n 3, 1) := by decide +kernel
theorem dL_isMessage_39 : decode cL_isMessage 39 = .ok (.invokestatic 304, 3) := by decide +kernel
theorem dL_isMessage_42 : decode cL_isMessage 42 = .ok (.if_icmp .ge 29, 3) := by decide +kernel
theorem dL_isMessage_45 : decode cL_isMessage 45 = .ok (.aload_n 0, 1) := by decide +kernel
theorem dL_isMessage_46 : decode cL_isMessage 46 = .ok (.iload_n 3, 1) := by decide +kernel
theorem dL_isMessage_47 : decode cL_isMessage 47 = .ok (.iload 8, 2) := by decide +kernel
theorem dL_isMessage_49 : decode cL_isMessage 49 = .ok (.invokestatic 306, 3) := by decide +kernel
theorem dL_isMessage_52 : decode cL_isMessage 52 = .ok (.iload_n 2, 1) := by decide +kernel
theorem dL_isMessage_53 : decode cL_isMessage 53 = .ok (.if_icmp .ne 8, 3) := by decide +kernel
theorem dL_isMessage_56 : decode cL_isMessage 56 = .ok (.iload 8, 2) := by decide +kernel
theorem dL_isMessage_58 : decode cL_isMessage 58 = .ok (.goto 5, 3) := by decide +kernel
theorem dL_isMessage_61 : decode cL_isMessage 61 = .ok (.iload 6, 2) := by decide +kernel
theorem dL_isMessage_63 : decode cL_isMessage 63 = .ok (.istore 6, 2) := by decide +kernel
theorem dL_isMessage_65 : decode cL_isMessage 65 = .ok (.iinc 8 1, 3) := by decide +kernel
theorem dL_isMessage_68 : decode cL_isMessage 68 = .ok (.goto (-33), 3) := by decide +kernel
theorem dL_isMessage_71 : decode cL_isMessage 71 = .ok (.iconst 0, 1) := by decide +kernel
theorem dL_isMessage_72 : decode cL_isMessage 72 = .ok (.istore 8, 2) := by decide +kernel
theorem dL_isMessage_74 : decode cL_isMessage 74 = .ok (.iload 8, 2) := by decide +kernel
theorem dL_isMessage_76 : decode cL_isMessage 76 = .ok (.aload_n 0, 1) := by decide +kernel
theorem dL_isMessage_77 : decode cL_isMessage 77 = .ok (.invokevirtual 308, 3) := by decide +kernel
theorem dL_isMessage_80 : decode cL_isMessage 80 = .ok (.if_icmp .ge 28, 3) := by decide +kernel
theorem dL_isMessage_83 : decode cL_isMessage 83 = .ok (.aload_n 0, 1) := by decide +kernel
theorem dL_isMessage_84 : decode cL_isMessage 84 = .ok (.iload 8, 2) := by decide +kernel
theorem dL_isMessage_86 : decode cL_isMessage 86 = .ok (.invokestatic 311, 3) := by decide +kernel
theorem dL_isMessage_89 : decode cL_isMessage 89 = .ok (.iload_n 2, 1) := by decide +kernel
theorem dL_isMessage_90 : decode cL_isMessage 90 = .ok (.if_icmp .ne 8, 3) := by decide +kernel
theorem dL_isMessage_93 : decode cL_isMessage 93 = .ok (.iload 8, 2) := by decide +kernel
theorem dL_isMessage_95 : decode cL_isMessage 95 = .ok (.goto 5, 3) := by decide +kernel
theorem dL_isMessage_98 : decode cL_isMessage 98 = .ok (.iload 7, 2) := by decide +kernel
theorem dL_isMessage_100 : decode cL_isMessage 100 = .ok (.istore 7, 2) := by decide +kernel
theorem dL_isMessage_102 : decode cL_isMessage 102 = .ok (.iinc 8 1, 3) := by decide +kernel
theorem dL_isMessage_105 : decode cL_isMessage 105 = .ok (.goto (-31), 3) := by decide +kernel
theorem dL_isMessage_108 : decode cL_isMessage 108 = .ok (.iconst (-1), 1) := by decide +kernel
theorem dL_isMessage_109 : decode cL_isMessage 109 = .ok (.istore 8, 2) := by decide +kernel
theorem dL_isMessage_111 : decode cL_isMessage 111 = .ok (.iconst 0, 1) := by decide +kernel
theorem dL_isMessage_112 : decode cL_isMessage 112 = .ok (.istore 9, 2) := by decide +kernel
theorem dL_isMessage_114 : decode cL_isMessage 114 = .ok (.aload_n 0, 1) := by decide +kernel
theorem dL_isMessage_115 : decode cL_isMessage 115 = .ok (.iload 9, 2) := by decide +kernel
theorem dL_isMessage_117 : decode cL_isMessage 117 = .ok (.invokestatic 323, 3) := by decide +kernel
theorem dL_isMessage_120 : decode cL_isMessage 120 = .ok (.ifCond .lt 28, 3) := by decide +kernel
theorem dL_isMessage_123 : decode cL_isMessage 123 = .ok (.aload_n 0, 1) := by decide +kernel
theorem dL_isMessage_124 : decode cL_isMessage 124 = .ok (.iload 9, 2) := by decide +kernel
theorem dL_isMessage_126 : decode cL_isMessage 126 = .ok (.invokestatic 323, 3) := by decide +kernel
theorem dL_isMessage_129 : decode cL_isMessage 129 = .ok (.iload_n 2, 1) := by decide +kernel
theorem dL_isMessage_130 : decode cL_isMessage 130 = .ok (.if_icmp .ne 8, 3) := by decide +kernel
theorem dL_isMessage_133 : decode cL_isMessage 133 = .ok (.iload 9, 2) := by decide +kernel
theorem dL_isMessage_135 : decode cL_isMessage 135 = .ok (.goto 5, 3) := by decide +kernel
theorem dL_isMessage_138 : decode cL_isMessage 138 = .ok (.iload 8, 2) := by decide +kernel
theorem dL_isMessage_140 : decode cL_isMessage 140 = .ok (.istore 8, 2) := by decide +kernel
theorem dL_isMessage_142 : decode cL_isMessage 142 = .ok (.iinc 9 1, 3) := by decide +kernel
theorem dL_isMessage_145 : decode cL_isMessage 145 = .ok (.goto (-31), 3) := by decide +kernel
theorem dL_isMessage_148 : decode cL_isMessage 148 = .ok (.iload 4, 2) := by decide +kernel
theorem dL_isMessage_150 : decode cL_isMessage 150 = .ok (.bipush 100, 2) := by decide +kernel
theorem dL_isMessage_152 : decode cL_isMessage 152 = .ok (.if_icmp .ne 7, 3) := by decide +kernel
theorem dL_isMessage_155 : decode cL_isMessage 155 = .ok (.iconst 1, 1) := by decide +kernel
theorem dL_isMessage_156 : decode cL_isMessage 156 = .ok (.goto 4, 3) := by decide +kernel
theorem dL_isMessage_159 : decode cL_isMessage 159 = .ok (.iconst 0, 1) := by decide +kernel
theorem dL_isMessage_160 : decode cL_isMessage 160 = .ok (.iload 6, 2) := by decide +kernel
theorem dL_isMessage_162 : decode cL_isMessage 162 = .ok (.ifCond .lt 7, 3) := by decide +kernel
theorem dL_isMessage_165 : decode cL_isMessage 165 = .ok (.iconst 1, 1) := by decide +kernel
theorem dL_isMessage_166 : decode cL_isMessage 166 = .ok (.goto 4, 3) := by decide +kernel
theorem dL_isMessage_169 : decode cL_isMessage 169 = .ok (.iconst 0, 1) := by decide +kernel
theorem dL_isMessage_170 : decode cL_isMessage 170 = .ok (.if_icmp .ne 85, 3) := by decide +kernel
theorem dL_isMessage_173 : decode cL_isMessage 173 = .ok (.iload 4, 2) := by decide +kernel
theorem dL_isMessage_175 : decode cL_isMessage 175 = .ok (.bipush 102, 2) := by decide +kernel
theorem dL_isMessage_177 : decode cL_isMessage 177 = .ok (.if_icmp .ne 7, 3) := by decide +kernel
theorem dL_isMessage_180 : decode cL_isMessage 180 = .ok (.iconst 1, 1) := by decide +kernel
theorem dL_isMessage_181 : decode cL_isMessage 181 = .ok (.goto 4, 3) := by decide +kernel
theorem dL_isMessage_184 : decode cL_isMessage 184 = .ok (.iconst 0, 1) := by decide +kernel
theorem dL_isMessage_185 : decode cL_isMessage 185 = .ok (.iload 7, 2) := by decide +kernel
theorem dL_isMessage_187 : decode cL_isMessage 187 = .ok (.ifCond .lt 7, 3) := by decide +kernel
theorem dL_isMessage_190 : decode cL_isMessage 190 = .ok (.iconst 1, 1) := by decide +kernel
theorem dL_isMessage_191 : decode cL_isMessage 191 = .ok (.goto 4, 3) := by decide +kernel
theorem dL_isMessage_194 : decode cL_isMessage 194 = .ok (.iconst 0, 1) := by decide +kernel
theorem dL_isMessage_195 : decode cL_isMessage 195 = .ok (.if_icmp .ne 60, 3) := by decide +kernel
theorem dL_isMessage_198 : decode cL_isMessage 198 = .ok (.iload 4, 2) := by decide +kernel
theorem dL_isMessage_200 : decode cL_isMessage 200 = .ok (.bipush 119, 2) := by decide +kernel
theorem dL_isMessage_202 : decode cL_isMessage 202 = .ok (.if_icmp .ne 7, 3) := by decide +kernel
theorem dL_isMessage_205 : decode cL_isMessage 205 = .ok (.iconst 1, 1) := by decide +kernel
theorem dL_isMessage_206 : decode cL_isMessage 206 = .ok (.goto 4, 3) := by decide +kernel
theorem dL_isMessage_209 : decode cL_isMessage 209 = .ok (.iconst 0, 1) := by decide +kernel
theorem dL_isMessage_210 : decode cL_isMessage 210 = .ok (.iload 8, 2) := by decide +kernel
theorem dL_isMessage_212 : decode cL_isMessage 212 = .ok (.ifCond .lt 7, 3) := by decide +kernel
theorem dL_isMessage_215 : decode cL_isMessage 215 = .ok (.iconst 1, 1) := by decide +kernel
theorem dL_isMessage_216 : decode cL_isMessage 216 = .ok (.goto 4, 3) := by decide +kernel
theorem dL_isMessage_219 : decode cL_isMessage 219 = .ok (.iconst 0, 1) := by decide +kernel
theorem dL_isMessage_220 : decode cL_isMessage 220 = .ok (.if_icmp .ne 35, 3) := by decide +kernel
theorem dL_isMessage_223 : decode cL_isMessage 223 = .ok (.iload 4, 2) := by decide +kernel
theorem dL_isMessage_225 : decode cL_isMessage 225 = .ok (.bipush 110, 2) := by decide +kernel
theorem dL_isMessage_227 : decode cL_isMessage 227 = .ok (.if_icmp .ne 7, 3) := by decide +kernel
theorem dL_isMessage_230 : decode cL_isMessage 230 = .ok (.iconst 1, 1) := by decide +kernel
theorem dL_isMessage_231 : decode cL_isMessage 231 = .ok (.goto 4, 3) := by decide +kernel
theorem dL_isMessage_234 : decode cL_isMessage 234 = .ok (.iconst 0, 1) := by decide +kernel
theorem dL_isMessage_235 : decode cL_isMessage 235 = .ok (.aload_n 0, 1) := by decide +kernel
theorem dL_isMessage_236 : decode cL_isMessage 236 = .ok (.iload_n 2, 1) := by decide +kernel
theorem dL_isMessage_237 : decode cL_isMessage 237 = .ok (.invokestatic 202, 3) := by decide +kernel
theorem dL_isMessage_240 : decode cL_isMessage 240 = .ok (.ifCond .le 7, 3) := by decide +kernel
theorem dL_isMessage_243 : decode cL_isMessage 243 = .ok (.iconst 1, 1) := by decide +kernel
theorem dL_isMessage_244 : decode cL_isMessage 244 = .ok (.goto 4, 3) := by decide +kernel
theorem dL_isMessage_247 : decode cL_isMessage 247 = .ok (.iconst 0, 1) := by decide +kernel
theorem dL_isMessage_248 : decode cL_isMessage 248 = .ok (.if_icmp .ne 7, 3) := by decide +kernel
theorem dL_isMessage_251 : decode cL_isMessage 251 = .ok (.iconst 1, 1) := by decide +kernel
theorem dL_isMessage_252 : decode cL_isMessage 252 = .ok (.goto 4, 3) := by decide +kernel
theorem dL_isMessage_255 : decode cL_isMessage 255 = .ok (.iconst 0, 1) := by decide +kernel
theorem dL_isMessage_256 : decode cL_isMessage 256 = .ok (.istore 9, 2) := by decide +kernel
theorem dL_isMessage_258 : decode cL_isMessage 258 = .ok (.iload 4, 2) := by decide +kernel
theorem dL_isMessage_260 : decode cL_isMessage 260 = .ok (.bipush 110, 2) := by decide +kernel
theorem dL_isMessage_262 : decode cL_isMessage 262 = .ok (.if_icmp .ne 31, 3) := by decide +kernel
theorem dL_isMessage_265 : decode cL_isMessage 265 = .ok (.iload 5, 2) := by decide +kernel
theorem dL_isMessage_267 : decode cL_isMessage 267 = .ok (.iconst 1, 1) := by decide +kernel
theorem dL_isMessage_268 : decode cL_isMessage 268 = .ok (.if_icmp .lt 29, 3) := by decide +kernel
theorem dL_isMessage_271 : decode cL_isMessage 271 = .ok (.iload 5, 2) := by decide +kernel
theorem dL_isMessage_273 : decode cL_isMessage 273 = .ok (.iconst 5, 1) := by decide +kernel
theorem dL_isMessage_274 : decode cL_isMessage 274 = .ok (.if_icmp .ge 23, 3) := by decide +kernel
theorem dL_isMessage_277 : decode cL_isMessage 277 = .ok (.aload_n 0, 1) := by decide +kernel
theorem dL_isMessage_278 : decode cL_isMessage 278 = .ok (.iload_n 2, 1) := by decide +kernel
theorem dL_isMessage_279 : decode cL_isMessage 279 = .ok (.invokestatic 202, 3) := by decide +kernel
theorem dL_isMessage_282 : decode cL_isMessage 282 = .ok (.i2l, 1) := by decide +kernel
theorem dL_isMessage_283 : decode cL_isMessage 283 = .ok (.aload_n 0, 1) := by decide +kernel
theorem dL_isMessage_284 : decode cL_isMessage 284 = .ok (.iload 5, 2) := by decide +kernel
theorem dL_isMessage_286 : decode cL_isMessage 286 = .ok (.invokestatic 325, 3) := by decide +kernel
theorem dL_isMessage_289 : decode cL_isMessage 289 = .ok (.lcmp, 1) := by decide +kernel
theorem dL_isMessage_290 : decode cL_isMessage 290 = .ok (.ifCond .gt 7, 3) := by decide +kernel
theorem dL_isMessage_293 : decode cL_isMessage 293 = .ok (.iconst 1, 1) := by decide +kernel
theorem dL_isMessage_294 : decode cL_isMessage 294 = .ok (.goto 4, 3) := by decide +kernel
theorem dL_isMessage_297 : decode cL_isMessage 297 = .ok (.iconst 0, 1) := by decide +kernel
theorem dL_isMessage_298 : decode cL_isMessage 298 = .ok (.istore 10, 2) := by decide +kernel
theorem dL_isMessage_300 : decode cL_isMessage 300 = .ok (.aload_n 0, 1) := by decide +kernel
theorem dL_isMessage_301 : decode cL_isMessage 301 = .ok (.iload_n 2, 1) := by decide +kernel
theorem dL_isMessage_302 : decode cL_isMessage 302 = .ok (.invokestatic 328, 3) := by decide +kernel
theorem dL_isMessage_305 : decode cL_isMessage 305 = .ok (.istore 11, 2) := by decide +kernel
theorem dL_isMessage_307 : decode cL_isMessage 307 = .ok (.iload 4, 2) := by decide +kernel
theorem dL_isMessage_309 : decode cL_isMessage 309 = .ok (.bipush 100, 2) := by decide +kernel
theorem dL_isMessage_311 : decode cL_isMessage 311 = .ok (.if_icmp .ne 18, 3) := by decide +kernel
theorem dL_isMessage_314 : decode cL_isMessage 314 = .ok (.iload 11, 2) := by decide +kernel
theorem dL_isMessage_316 : decode cL_isMessage 316 = .ok (.bipush (-79), 2) := by decide +kernel
theorem dL_isMessage_318 : decode cL_isMessage 318 = .ok (.if_icmp .ne 7, 3) := by decide +kernel
theorem dL_isMessage_321 : decode cL_isMessage 321 = .ok (.iconst 1, 1) := by decide +kernel
theorem dL_isMessage_322 : decode cL_isMessage 322 = .ok (.goto 43, 3) := by decide +kernel
theorem dL_isMessage_325 : decode cL_isMessage 325 = .ok (.iconst 0, 1) := by decide +kernel
theorem dL_isMessage_326 : decode cL_isMessage 326 = .ok (.goto 39, 3) := by decide +kernel
theorem dL_isMessage_329 : decode cL_isMessage 329 = .ok (.iload 11, 2) := by decide +kernel
theorem dL_isMessage_331 : decode cL_isMessage 331 = .ok (.iload_n 2, 1) := by decide +kernel
theorem dL_isMessage_332 : decode cL_isMessage 332 = .ok (.iload 5, 2) := by decide +kernel
theorem dL_isMessage_334 : decode cL_isMessage 334 = .ok (.iadd, 1) := by decide +kernel
theorem dL_isMessage_335 : decode cL_isMessage 335 = .ok (.iconst 1, 1) := by decide +kernel
theorem dL_isMessage_336 : decode cL_isMessage 336 = .ok (.iadd, 1) := by decide +kernel
theorem dL_isMessage_337 : decode cL_isMessage 337 = .ok (.aload_n 0, 1) := by decide +kernel
theorem dL_isMessage_338 : decode cL_isMessage 338 = .ok (.invokevirtual 283, 3) := by decide +kernel
theorem dL_isMessage_341 : decode cL_isMessage 341 = .ok (.iadd, 1) := by decide +kernel
theorem dL_isMessage_342 : decode cL_isMessage 342 = .ok (.iconst 5, 1) := by decide +kernel
theorem dL_isMessage_343 : decode cL_isMessage 343 = .ok (.irem, 1) := by decide +kernel
theorem dL_isMessage_344 : decode cL_isMessage 344 = .ok (.aload_n 0, 1) := by decide +kernel
theorem dL_isMessage_345 : decode cL_isMessage 345 = .ok (.iload_n 3, 1) := by decide +kernel
theorem dL_isMessage_346 : decode cL_isMessage 346 = .ok (.invokestatic 300, 3) := by decide +kernel
theorem dL_isMessage_349 : decode cL_isMessage 349 = .ok (.if_icmp .ge 7, 3) := by decide +kernel
theorem dL_isMessage_352 : decode cL_isMessage 352 = .ok (.iconst 1, 1) := by decide +kernel
theorem dL_isMessage_353 : decode cL_isMessage 353 = .ok (.goto 4, 3) := by decide +kernel
theorem dL_isMessage_356 : decode cL_isMessage 356 = .ok (.iconst 0, 1) := by decide +kernel
theorem dL_isMessage_357 : decode cL_isMessage 357 = .ok (.if_icmp .ne 7, 3) := by decide +kernel
theorem dL_isMessage_360 : decode cL_isMessage 360 = .ok (.iconst 1, 1) := by decide +kernel
theorem dL_isMessage_361 : decode cL_isMessage 361 = .ok (.goto 4, 3) := by decide +kernel
theorem dL_isMessage_364 : decode cL_isMessage 364 = .ok (.iconst 0, 1) := by decide +kernel
theorem dL_isMessage_365 : decode cL_isMessage 365 = .ok (.istore 12, 2) := by decide +kernel
theorem dL_isMessage_367 : decode cL_isMessage 367 = .ok (.iload 7, 2) := by decide +kernel
theorem dL_isMessage_369 : decode cL_isMessage 369 = .ok (.ifCond .lt 29, 3) := by decide +kernel
theorem dL_isMessage_372 : decode cL_isMessage 372 = .ok (.aload_n 0, 1) := by decide +kernel
theorem dL_isMessage_373 : decode cL_isMessage 373 = .ok (.iload 7, 2) := by decide +kernel
theorem dL_isMessage_375 : decode cL_isMessage 375 = .ok (.invokestatic 313, 3) := by decide +kernel
theorem dL_isMessage_378 : decode cL_isMessage 378 = .ok (.iconst 1, 1) := by decide +kernel
theorem dL_isMessage_379 : decode cL_isMessage 379 = .ok (.if_icmp .lt 23, 3) := by decide +kernel
theorem dL_isMessage_382 : decode cL_isMessage 382 = .ok (.aload_n 0, 1) := by decide +kernel
theorem dL_isMessage_383 : decode cL_isMessage 383 = .ok (.iload 7, 2) := by decide +kernel
theorem dL_isMessage_385 : decode cL_isMessage 385 = .ok (.invokestatic 313, 3) := by decide +kernel
theorem dL_isMessage_388 : decode cL_isMessage 388 = .ok (.aload_n 0, 1) := by decide +kernel
theorem dL_isMessage_389 : decode cL_isMessage 389 = .ok (.iload_n 3, 1) := by decide +kernel
theorem dL_isMessage_390 : decode cL_isMessage 390 = .ok (.invokestatic 298, 3) := by decide +kernel
theorem dL_isMessage_393 : decode cL_isMessage 393 = .ok (.iconst 1, 1) := by decide +kernel
theorem dL_isMessage_394 : decode cL_isMessage 394 = .ok (.iadd, 1) := by decide +kernel
theorem dL_isMessage_395 : decode cL_isMessage 395 = .ok (.if_icmp .gt 7, 3) := by decide +kernel
theorem dL_isMessage_398 : decode cL_isMessage 398 = .ok (.iconst 1, 1) := by decide +kernel
theorem dL_isMessage_399 : decode cL_isMessage 399 = .ok (.goto 4, 3) := by decide +kernel
theorem dL_isMessage_402 : decode cL_isMessage 402 = .ok (.iconst 0, 1) := by decide +kernel
theorem dL_isMessage_403 : decode cL_isMessage 403 = .ok (.istore 13, 2) := by decide +kernel
theorem dL_isMessage_405 : decode cL_isMessage 405 = .ok (.iload 9, 2) := by decide +kernel
theorem dL_isMessage_407 : decode cL_isMessage 407 = .ok (.ifCond .eq 103, 3) := by decide +kernel
theorem dL_isMessage_410 : decode cL_isMessage 410 = .ok (.iload 10, 2) := by decide +kernel
theorem dL_isMessage_412 : decode cL_isMessage 412 = .ok (.ifCond .eq 98, 3) := by decide +kernel
theorem dL_isMessage_415 : decode cL_isMessage 415 = .ok (.iload 12, 2) := by decide +kernel
theorem dL_isMessage_417 : decode cL_isMessage 417 = .ok (.ifCond .eq 93, 3) := by decide +kernel
theorem dL_isMessage_420 : decode cL_isMessage 420 = .ok (.iload 13, 2) := by decide +kernel
theorem dL_isMessage_422 : decode cL_isMessage 422 = .ok (.ifCond .eq 88, 3) := by decide +kernel
theorem dL_isMessage_425 : decode cL_isMessage 425 = .ok (.iload 5, 2) := by decide +kernel
theorem dL_isMessage_427 : decode cL_isMessage 427 = .ok (.iload 4, 2) := by decide +kernel
theorem dL_isMessage_429 : decode cL_isMessage 429 = .ok (.bipush 100, 2) := by decide +kernel
theorem dL_isMessage_431 : decode cL_isMessage 431 = .ok (.if_icmp .ne 7, 3) := by decide +kernel
theorem dL_isMessage_434 : decode cL_isMessage 434 = .ok (.iconst 1, 1) := by decide +kernel
theorem dL_isMessage_435 : decode cL_isMessage 435 = .ok (.goto 4, 3) := by decide +kernel
theorem dL_isMessage_438 : decode cL_isMessage 438 = .ok (.iconst 0, 1) := by decide +kernel
theorem dL_isMessage_439 : decode cL_isMessage 439 = .ok (.if_icmp .lt 71, 3) := by decide +kernel
theorem dL_isMessage_442 : decode cL_isMessage 442 = .ok (.iload 5, 2) := by decide +kernel
theorem dL_isMessage_444 : decode cL_isMessage 444 = .ok (.iconst 5, 1) := by decide +kernel
theorem dL_isMessage_445 : decode cL_isMessage 445 = .ok (.if_icmp .gt 65, 3) := by decide +kernel
theorem dL_isMessage_448 : decode cL_isMessage 448 = .ok (.iload_n 1, 1) := by decide +kernel
theorem dL_isMessage_449 : decode cL_isMessage 449 = .ok (.ifCond .eq 14, 3) := by decide +kernel
theorem dL_isMessage_452 : decode cL_isMessage 452 = .ok (.aload_n 0, 1) := by decide +kernel
theorem dL_isMessage_453 : decode cL_isMessage 453 = .ok (.iload_n 1, 1) := by decide +kernel
theorem dL_isMessage_454 : decode cL_isMessage 454 = .ok (.iconst 1, 1) := by decide +kernel
theorem dL_isMessage_455 : decode cL_isMessage 455 = .ok (.isub, 1) := by decide +kernel
theorem dL_isMessage_456 : decode cL_isMessage 456 = .ok (.invokestatic 196, 3) := by decide +kernel
theorem dL_isMessage_459 : decode cL_isMessage 459 = .ok (.iload_n 2, 1) := by decide +kernel
theorem dL_isMessage_460 : decode cL_isMessage 460 = .ok (.if_icmp .ge 50, 3) := by decide +kernel
theorem dL_isMessage_463 : decode cL_isMessage 463 = .ok (.iload_n 2, 1) := by decide +kernel
theorem dL_isMessage_464 : decode cL_isMessage 464 = .ok (.aload_n 0, 1) := by decide +kernel
theorem dL_isMessage_465 : decode cL_isMessage 465 = .ok (.invokevirtual 288, 3) := by decide +kernel
theorem dL_isMessage_468 : decode cL_isMessage 468 = .ok (.if_icmp .ge 42, 3) := by decide +kernel
theorem dL_isMessage_471 : decode cL_isMessage 471 = .ok (.aload_n 0, 1) := by decide +kernel
theorem dL_isMessage_472 : decode cL_isMessage 472 = .ok (.iload_n 2, 1) := by decide +kernel
theorem dL_isMessage_473 : decode cL_isMessage 473 = .ok (.invokestatic 317, 3) := by decide +kernel
theorem dL_isMessage_476 : decode cL_isMessage 476 = .ok (.ifCond .lt 34, 3) := by decide +kernel
theorem dL_isMessage_479 : decode cL_isMessage 479 = .ok (.aload_n 0, 1) := by decide +kernel
theorem dL_isMessage_480 : decode cL_isMessage 480 = .ok (.iload_n 2, 1) := by decide +kernel
theorem dL_isMessage_481 : decode cL_isMessage 481 = .ok (.invokestatic 317, 3) := by decide +kernel
theorem dL_isMessage_484 : decode cL_isMessage 484 = .ok (.bipush 99, 2) := by decide +kernel
theorem dL_isMessage_486 : decode cL_isMessage 486 = .ok (.if_icmp .gt 24, 3) := by decide +kernel
theorem dL_isMessage_489 : decode cL_isMessage 489 = .ok (.iload 4, 2) := by decide +kernel
theorem dL_isMessage_491 : decode cL_isMessage 491 = .ok (.bipush 100, 2) := by decide +kernel
theorem dL_isMessage_493 : decode cL_isMessage 493 = .ok (.if_icmp .ne 13, 3) := by decide +kernel
theorem dL_isMessage_496 : decode cL_isMessage 496 = .ok (.aload_n 0, 1) := by decide +kernel
theorem dL_isMessage_497 : decode cL_isMessage 497 = .ok (.iload_n 2, 1) := by decide +kernel
theorem dL_isMessage_498 : decode cL_isMessage 498 = .ok (.invokestatic 198, 3) := by decide +kernel
theorem dL_isMessage_501 : decode cL_isMessage 501 = .ok (.bipush (-79), 2) := by decide +kernel
theorem dL_isMessage_503 : decode cL_isMessage 503 = .ok (.if_icmp .ne 7, 3) := by decide +kernel
theorem dL_isMessage_506 : decode cL_isMessage 506 = .ok (.iconst 1, 1) := by decide +kernel
theorem dL_isMessage_507 : decode cL_isMessage 507 = .ok (.goto 4, 3) := by decide +kernel
theorem dL_isMessage_510 : decode cL_isMessage 510 = .ok (.iconst 0, 1) := by decide +kernel
theorem dL_isMessage_511 : decode cL_isMessage 511 = .ok (.ireturn, 1) := by decide +kernel
theorem dL_isWhole_0 : decode cL_isWhole 0 = .ok (.aload_n 0, 1) := by decide +kernel
theorem dL_isWhole_1 : decode cL_isWhole 1 = .ok (.invokevirtual 193, 3) := by decide +kernel
theorem dL_isWhole_4 : decode cL_isWhole 4 = .ok (.istore 4, 2) := by decide +kernel
theorem dL_isWhole_6 : decode cL_isWhole 6 = .ok (.iconst 0, 1) := by decide +kernel
theorem dL_isWhole_7 : decode cL_isWhole 7 = .ok (.istore 5, 2) := by decide +kernel
theorem dL_isWhole_9 : decode cL_isWhole 9 = .ok (.iconst 0, 1) := by decide +kernel
theorem dL_isWhole_10 : decode cL_isWhole 10 = .ok (.istore 6, 2) := by decide +kernel
theorem dL_isWhole_12 : decode cL_isWhole 12 = .ok (.iconst 0, 1) := by decide +kernel
theorem dL_isWhole_13 : decode cL_isWhole 13 = .ok (.istore 7, 2) := by decide +kernel
theorem dL_isWhole_15 : decode cL_isWhole 15 = .ok (.iconst 0, 1) := by decide +kernel
theorem dL_isWhole_16 : decode cL_isWhole 16 = .ok (.istore 8, 2) := by decide +kernel
theorem dL_isWhole_18 : decode cL_isWhole 18 = .ok (.iload 8, 2) := by decide +kernel
theorem dL_isWhole_20 : decode cL_isWhole 20 = .ok (.iload 4, 2) := by decide +kernel
theorem dL_isWhole_22 : decode cL_isWhole 22 = .ok (.if_icmp .ge 99, 3) := by decide +kernel
theorem dL_isWhole_25 : decode cL_isWhole 25 = .ok (.iload_n 3, 1) := by decide +kernel
theorem dL_isWhole_26 : decode cL_isWhole 26 = .ok (.ifCond .ne 17, 3) := by decide +kernel
theorem dL_isWhole_29 : decode cL_isWhole 29 = .ok (.iload 8, 2) := by decide +kernel
theorem dL_isWhole_31 : decode cL_isWhole 31 = .ok (.aload_n 1, 1) := by decide +kernel
theorem dL_isWhole_32 : decode cL_isWhole 32 = .ok (.iload_n 2, 1) := by decide +kernel
theorem dL_isWhole_33 : decode cL_isWhole 33 = .ok (.iconst 1, 1) := by decide +kernel
theorem dL_isWhole_34 : decode cL_isWhole 34 = .ok (.iadd, 1) := by decide +kernel
theorem dL_isWhole_35 : decode cL_isWhole 35 = .ok (.bipush 16, 2) := by decide +kernel
theorem dL_isWhole_37 : decode cL_isWhole 37 = .ok (.invokestatic 189, 3) := by decide +kernel
theorem dL_isWhole_40 : decode cL_isWhole 40 = .ok (.if_icmp .ne 14, 3) := by decide +kernel
theorem dL_isWhole_43 : decode cL_isWhole 43 = .ok (.aload_n 0, 1) := by decide +kernel
theorem dL_isWhole_44 : decode cL_isWhole 44 = .ok (.iload 8, 2) := by decide +kernel
theorem dL_isWhole_46 : decode cL_isWhole 46 = .ok (.invokestatic 330, 3) := by decide +kernel
theorem dL_isWhole_49 : decode cL_isWhole 49 = .ok (.ifCond .ne 5, 3) := by decide +kernel
theorem dL_isWhole_52 : decode cL_isWhole 52 = .ok (.iconst 0, 1) := by decide +kernel
theorem dL_isWhole_53 : decode cL_isWhole 53 = .ok (.ireturn, 1) := by decide +kernel
theorem dL_isWhole_54 : decode cL_isWhole 54 = .ok (.aload_n 0, 1) := by decide +kernel
theorem dL_isWhole_55 : decode cL_isWhole 55 = .ok (.iload 8, 2) := by decide +kernel
theorem dL_isWhole_57 : decode cL_isWhole 57 = .ok (.invokestatic 196, 3) := by decide +kernel
theorem dL_isWhole_60 : decode cL_isWhole 60 = .ok (.istore 9, 2) := by decide +kernel
theorem dL_isWhole_62 : decode cL_isWhole 62 = .ok (.iload 5, 2) := by decide +kernel
theorem dL_isWhole_64 : decode cL_isWhole 64 = .ok (.aload_n 0, 1) := by decide +kernel
theorem dL_isWhole_65 : decode cL_isWhole 65 = .ok (.iload 9, 2) := by decide +kernel
theorem dL_isWhole_67 : decode cL_isWhole 67 = .ok (.invokestatic 319, 3) := by decide +kernel
theorem dL_isWhole_70 : decode cL_isWhole 70 = .ok (.iadd, 1) := by decide +kernel
theorem dL_isWhole_71 : decode cL_isWhole 71 = .ok (.istore 5, 2) := by decide +kernel
theorem dL_isWhole_73 : decode cL_isWhole 73 = .ok (.iload 6, 2) := by decide +kernel
theorem dL_isWhole_75 : decode cL_isWhole 75 = .ok (.aload_n 0, 1) := by decide +kernel
theorem dL_isWhole_76 : decode cL_isWhole 76 = .ok (.iload 9, 2) := by decide +kernel
theorem dL_isWhole_78 : decode cL_isWhole 78 = .ok (.invokestatic 200, 3) := by decide +kernel
theorem dL_isWhole_81 : decode cL_isWhole 81 = .ok (.bipush 102, 2) := by decide +kernel
theorem dL_isWhole_83 : decode cL_isWhole 83 = .ok (.if_icmp .ne 7, 3) := by decide +kernel
theorem dL_isWhole_86 : decode cL_isWhole 86 = .ok (.iconst 1, 1) := by decide +kernel
theorem dL_isWhole_87 : decode cL_isWhole 87 = .ok (.goto 4, 3) := by decide +kernel
theorem dL_isWhole_90 : decode cL_isWhole 90 = .ok (.iconst 0, 1) := by decide +kernel
theorem dL_isWhole_91 : decode cL_isWhole 91 = .ok (.iadd, 1) := by decide +kernel
theorem dL_isWhole_92 : decode cL_isWhole 92 = .ok (.istore 6, 2) := by decide +kernel
theorem dL_isWhole_94 : decode cL_isWhole 94 = .ok (.iload 7, 2) := by decide +kernel
theorem dL_isWhole_96 : decode cL_isWhole 96 = .ok (.aload_n 0, 1) := by decide +kernel
theorem dL_isWhole_97 : decode cL_isWhole 97 = .ok (.iload 9, 2) := by decide +kernel
theorem dL_isWhole_99 : decode cL_isWhole 99 = .ok (.invokestatic 200, 3) := by decide +kernel
theorem dL_isWhole_102 : decode cL_isWhole 102 = .ok (.bipush 100, 2) := by decide +kernel
theorem dL_isWhole_104 : decode cL_isWhole 104 = .ok (.if_icmp .ne 7, 3) := by decide +kernel
theorem dL_isWhole_107 : decode cL_isWhole 107 = .ok (.iconst 1, 1) := by decide +kernel
theorem dL_isWhole_108 : decode cL_isWhole 108 = .ok (.goto 4, 3) := by decide +kernel
theorem dL_isWhole_111 : decode cL_isWhole 111 = .ok (.iconst 0, 1) := by decide +kernel
theorem dL_isWhole_112 : decode cL_isWhole 112 = .ok (.iadd, 1) := by decide +kernel
theorem dL_isWhole_113 : decode cL_isWhole 113 = .ok (.istore 7, 2) := by decide +kernel
theorem dL_isWhole_115 : decode cL_isWhole 115 = .ok (.iinc 8 1, 3) := by decide +kernel
theorem dL_isWhole_118 : decode cL_isWhole 118 = .ok (.goto (-100), 3) := by decide +kernel
theorem dL_isWhole_121 : decode cL_isWhole 121 = .ok (.iconst 0, 1) := by decide +kernel
theorem dL_isWhole_122 : decode cL_isWhole 122 = .ok (.istore 8, 2) := by decide +kernel
theorem dL_isWhole_124 : decode cL_isWhole 124 = .ok (.iconst 0, 1) := by decide +kernel
theorem dL_isWhole_125 : decode cL_isWhole 125 = .ok (.istore 9, 2) := by decide +kernel
theorem dL_isWhole_127 : decode cL_isWhole 127 = .ok (.iload 9, 2) := by decide +kernel
theorem dL_isWhole_129 : decode cL_isWhole 129 = .ok (.aload_n 0, 1) := by decide +kernel
theorem dL_isWhole_130 : decode cL_isWhole 130 = .ok (.invokevirtual 308, 3) := by decide +kernel
theorem dL_isWhole_133 : decode cL_isWhole 133 = .ok (.if_icmp .ge 86, 3) := by decide +kernel
theorem dL_isWhole_136 : decode cL_isWhole 136 = .ok (.iload 8, 2) := by decide +kernel
theorem dL_isWhole_138 : decode cL_isWhole 138 = .ok (.aload_n 0, 1) := by decide +kernel
theorem dL_isWhole_139 : decode cL_isWhole 139 = .ok (.iload 9, 2) := by decide +kernel
theorem dL_isWhole_141 : decode cL_isWhole 141 = .ok (.invokestatic 334, 3) := by decide +kernel
theorem dL_isWhole_144 : decode cL_isWhole 144 = .ok (.iadd, 1) := by decide +kernel
theorem dL_isWhole_145 : decode cL_isWhole 145 = .ok (.istore 8, 2) := by decide +kernel
theorem dL_isWhole_147 : decode cL_isWhole 147 = .ok (.aload_n 0, 1) := by decide +kernel
theorem dL_isWhole_148 : decode cL_isWhole 148 = .ok (.iload 9, 2) := by decide +kernel
theorem dL_isWhole_150 : decode cL_isWhole 150 = .ok (.invokestatic 313, 3) := by decide +kernel
theorem dL_isWhole_153 : decode cL_isWhole 153 = .ok (.ifCond .le 7, 3) := by decide +kernel
theorem dL_isWhole_156 : decode cL_isWhole 156 = .ok (.iconst 1, 1) := by decide +kernel
theorem dL_isWhole_157 : decode cL_isWhole 157 = .ok (.goto 4, 3) := by decide +kernel
theorem dL_isWhole_160 : decode cL_isWhole 160 = .ok (.iconst 0, 1) := by decide +kernel
theorem dL_isWhole_161 : decode cL_isWhole 161 = .ok (.aload_n 0, 1) := by decide +kernel
theorem dL_isWhole_162 : decode cL_isWhole 162 = .ok (.iload 9, 2) := by decide +kernel
theorem dL_isWhole_164 : decode cL_isWhole 164 = .ok (.invokestatic 334, 3) := by decide +kernel
theorem dL_isWhole_167 : decode cL_isWhole 167 = .ok (.iconst 1, 1) := by decide +kernel
theorem dL_isWhole_168 : decode cL_isWhole 168 = .ok (.if_icmp .ne 7, 3) := by decide +kernel
theorem dL_isWhole_171 : decode cL_isWhole 171 = .ok (.iconst 1, 1) := by decide +kernel
theorem dL_isWhole_172 : decode cL_isWhole 172 = .ok (.goto 4, 3) := by decide +kernel
theorem dL_isWhole_175 : decode cL_isWhole 175 = .ok (.iconst 0, 1) := by decide +kernel
theorem dL_isWhole_176 : decode cL_isWhole 176 = .ok (.if_icmp .ne 35, 3) := by decide +kernel
theorem dL_isWhole_179 : decode cL_isWhole 179 = .ok (.aload_n 0, 1) := by decide +kernel
theorem dL_isWhole_180 : decode cL_isWhole 180 = .ok (.iload 9, 2) := by decide +kernel
theorem dL_isWhole_182 : decode cL_isWhole 182 = .ok (.invokestatic 311, 3) := by decide +kernel
theorem dL_isWhole_185 : decode cL_isWhole 185 = .ok (.ifCond .lt 7, 3) := by decide +kernel
theorem dL_isWhole_188 : decode cL_isWhole 188 = .ok (.iconst 1, 1) := by decide +kernel
theorem dL_isWhole_189 : decode cL_isWhole 189 = .ok (.goto 4, 3) := by decide +kernel
theorem dL_isWhole_192 : decode cL_isWhole 192 = .ok (.iconst 0, 1) := by decide +kernel
theorem dL_isWhole_193 : decode cL_isWhole 193 = .ok (.aload_n 0, 1) := by decide +kernel
theorem dL_isWhole_194 : decode cL_isWhole 194 = .ok (.iload 9, 2) := by decide +kernel
theorem dL_isWhole_196 : decode cL_isWhole 196 = .ok (.invokestatic 334, 3) := by decide +kernel
theorem dL_isWhole_199 : decode cL_isWhole 199 = .ok (.iconst 1, 1) := by decide +kernel
theorem dL_isWhole_200 : decode cL_isWhole 200 = .ok (.if_icmp .ne 7, 3) := by decide +kernel
theorem dL_isWhole_203 : decode cL_isWhole 203 = .ok (.iconst 1, 1) := by decide +kernel
theorem dL_isWhole_204 : decode cL_isWhole 204 = .ok (.goto 4, 3) := by decide +kernel
theorem dL_isWhole_207 : decode cL_isWhole 207 = .ok (.iconst 0, 1) := by decide +kernel
theorem dL_isWhole_208 : decode cL_isWhole 208 = .ok (.if_icmp .eq 5, 3) := by decide +kernel
theorem dL_isWhole_211 : decode cL_isWhole 211 = .ok (.iconst 0, 1) := by decide +kernel
theorem dL_isWhole_212 : decode cL_isWhole 212 = .ok (.ireturn, 1) := by decide +kernel
theorem dL_isWhole_213 : decode cL_isWhole 213 = .ok (.iinc 9 1, 3) := by decide +kernel
theorem dL_isWhole_216 : decode cL_isWhole 216 = .ok (.goto (-89), 3) := by decide +kernel
theorem dL_isWhole_219 : decode cL_isWhole 219 = .ok (.iconst 1, 1) := by decide +kernel
theorem dL_isWhole_220 : decode cL_isWhole 220 = .ok (.istore 9, 2) := by decide +kernel
theorem dL_isWhole_222 : decode cL_isWhole 222 = .ok (.aload_n 0, 1) := by decide +kernel
theorem dL_isWhole_223 : decode cL_isWhole 223 = .ok (.iload 9, 2) := by decide +kernel
theorem dL_isWhole_225 : decode cL_isWhole 225 = .ok (.invokestatic 323, 3) := by decide +kernel
theorem dL_isWhole_228 : decode cL_isWhole 228 = .ok (.ifCond .lt 66, 3) := by decide +kernel
theorem dL_isWhole_231 : decode cL_isWhole 231 = .ok (.aload_n 0, 1) := by decide +kernel
theorem dL_isWhole_232 : decode cL_isWhole 232 = .ok (.iload 9, 2) := by decide +kernel
theorem dL_isWhole_234 : decode cL_isWhole 234 = .ok (.iconst 1, 1) := by decide +kernel
theorem dL_isWhole_235 : decode cL_isWhole 235 = .ok (.isub, 1) := by decide +kernel
theorem dL_isWhole_236 : decode cL_isWhole 236 = .ok (.invokestatic 323, 3) := by decide +kernel
theorem dL_isWhole_239 : decode cL_isWhole 239 = .ok (.istore 10, 2) := by decide +kernel
theorem dL_isWhole_241 : decode cL_isWhole 241 = .ok (.aload_n 0, 1) := by decide +kernel
theorem dL_isWhole_242 : decode cL_isWhole 242 = .ok (.iload 9, 2) := by decide +kernel
theorem dL_isWhole_244 : decode cL_isWhole 244 = .ok (.invokestatic 323, 3) := by decide +kernel
theorem dL_isWhole_247 : decode cL_isWhole 247 = .ok (.istore 11, 2) := by decide +kernel
theorem dL_isWhole_249 : decode cL_isWhole 249 = .ok (.aload_n 0, 1) := by decide +kernel
theorem dL_isWhole_250 : decode cL_isWhole 250 = .ok (.iload 10, 2) := by decide +kernel
theorem dL_isWhole_252 : decode cL_isWhole 252 = .ok (.invokestatic 319, 3) := by decide +kernel
theorem dL_isWhole_255 : decode cL_isWhole 255 = .ok (.aload_n 0, 1) := by decide +kernel
theorem dL_isWhole_256 : decode cL_isWhole 256 = .ok (.iload 11, 2) := by decide +kernel
theorem dL_isWhole_258 : decode cL_isWhole 258 = .ok (.invokestatic 319, 3) := by decide +kernel
theorem dL_isWhole_261 : decode cL_isWhole 261 = .ok (.if_icmp .gt 25, 3) := by decide +kernel
theorem dL_isWhole_264 : decode cL_isWhole 264 = .ok (.aload_n 0, 1) := by decide +kernel
theorem dL_isWhole_265 : decode cL_isWhole 265 = .ok (.iload 10, 2) := by decide +kernel
theorem dL_isWhole_267 : decode cL_isWhole 267 = .ok (.invokestatic 319, 3) := by decide +kernel
theorem dL_isWhole_270 : decode cL_isWhole 270 = .ok (.aload_n 0, 1) := by decide +kernel
theorem dL_isWhole_271 : decode cL_isWhole 271 = .ok (.iload 11, 2) := by decide +kernel
theorem dL_isWhole_273 : decode cL_isWhole 273 = .ok (.invokestatic 319, 3) := by decide +kernel
theorem dL_isWhole_276 : decode cL_isWhole 276 = .ok (.if_icmp .ne 12, 3) := by decide +kernel
theorem dL_isWhole_279 : decode cL_isWhole 279 = .ok (.iload 10, 2) := by decide +kernel
theorem dL_isWhole_281 : decode cL_isWhole 281 = .ok (.iload 11, 2) := by decide +kernel
theorem dL_isWhole_283 : decode cL_isWhole 283 = .ok (.if_icmp .le 5, 3) := by decide +kernel
theorem dL_isWhole_286 : decode cL_isWhole 286 = .ok (.iconst 0, 1) := by decide +kernel
theorem dL_isWhole_287 : decode cL_isWhole 287 = .ok (.ireturn, 1) := by decide +kernel
theorem dL_isWhole_288 : decode cL_isWhole 288 = .ok (.iinc 9 1, 3) := by decide +kernel
theorem dL_isWhole_291 : decode cL_isWhole 291 = .ok (.goto (-69), 3) := by decide +kernel
theorem dL_isWhole_294 : decode cL_isWhole 294 = .ok (.iconst 0, 1) := by decide +kernel
theorem dL_isWhole_295 : decode cL_isWhole 295 = .ok (.istore 9, 2) := by decide +kernel
theorem dL_isWhole_297 : decode cL_isWhole 297 = .ok (.iconst 0, 1) := by decide +kernel
theorem dL_isWhole_298 : decode cL_isWhole 298 = .ok (.istore 10, 2) := by decide +kernel
theorem dL_isWhole_300 : decode cL_isWhole 300 = .ok (.iload 10, 2) := by decide +kernel
theorem dL_isWhole_302 : decode cL_isWhole 302 = .ok (.aload_n 0, 1) := by decide +kernel
theorem dL_isWhole_303 : decode cL_isWhole 303 = .ok (.invokevirtual 231, 3) := by decide +kernel
theorem dL_isWhole_306 : decode cL_isWhole 306 = .ok (.if_icmp .ge 145, 3) := by decide +kernel
theorem dL_isWhole_309 : decode cL_isWhole 309 = .ok (.iload 9, 2) := by decide +kernel
theorem dL_isWhole_311 : decode cL_isWhole 311 = .ok (.aload_n 0, 1) := by decide +kernel
theorem dL_isWhole_312 : decode cL_isWhole 312 = .ok (.iload 10, 2) := by decide +kernel
theorem dL_isWhole_314 : decode cL_isWhole 314 = .ok (.invokestatic 304, 3) := by decide +kernel
theorem dL_isWhole_317 : decode cL_isWhole 317 = .ok (.iadd, 1) := by decide +kernel
theorem dL_isWhole_318 : decode cL_isWhole 318 = .ok (.istore 9, 2) := by decide +kernel
theorem dL_isWhole_320 : decode cL_isWhole 320 = .ok (.iconst 0, 1) := by decide +kernel
theorem dL_isWhole_321 : decode cL_isWhole 321 = .ok (.istore 11, 2) := by decide +kernel
theorem dL_isWhole_323 : decode cL_isWhole 323 = .ok (.iconst 0, 1) := by decide +kernel
theorem dL_isWhole_324 : decode cL_isWhole 324 = .ok (.istore 12, 2) := by decide +kernel
theorem dL_isWhole_326 : decode cL_isWhole 326 = .ok (.iload 12, 2) := by decide +kernel
theorem dL_isWhole_328 : decode cL_isWhole 328 = .ok (.bipush 100, 2) := by decide +kernel
theorem dL_isWhole_330 : decode cL_isWhole 330 = .ok (.if_icmp .ge 22, 3) := by decide +kernel
theorem dL_isWhole_333 : decode cL_isWhole 333 = .ok (.iload 11, 2) := by decide +kernel
theorem dL_isWhole_335 : decode cL_isWhole 335 = .ok (.aload_n 0, 1) := by decide +kernel
theorem dL_isWhole_336 : decode cL_isWhole 336 = .ok (.iload 10, 2) := by decide +kernel
theorem dL_isWhole_338 : decode cL_isWhole 338 = .ok (.iload 12, 2) := by decide +kernel
theorem dL_isWhole_340 : decode cL_isWhole 340 = .ok (.invokestatic 336, 3) := by decide +kernel
theorem dL_isWhole_343 : decode cL_isWhole 343 = .ok (.iadd, 1) := by decide +kernel
theorem dL_isWhole_344 : decode cL_isWhole 344 = .ok (.istore 11, 2) := by decide +kernel
theorem dL_isWhole_346 : decode cL_isWhole 346 = .ok (.iinc 12 1, 3) := by decide +kernel
theorem dL_isWhole_349 : decode cL_isWhole 349 = .ok (.goto (-23), 3) := by decide +kernel
theorem dL_isWhole_352 : decode cL_isWhole 352 = .ok (.aload_n 0, 1) := by decide +kernel
theorem dL_isWhole_353 : decode cL_isWhole 353 = .ok (.iload 10, 2) := by decide +kernel
theorem dL_isWhole_355 : decode cL_isWhole 355 = .ok (.invokestatic 304, 3) := by decide +kernel
theorem dL_isWhole_358 : decode cL_isWhole 358 = .ok (.bipush 8, 2) := by decide +kernel
theorem dL_isWhole_360 : decode cL_isWhole 360 = .ok (.if_icmp .gt 36, 3) := by decide +kernel
theorem dL_isWhole_363 : decode cL_isWhole 363 = .ok (.aload_n 0, 1) := by decide +kernel
theorem dL_isWhole_364 : decode cL_isWhole 364 = .ok (.iload 10, 2) := by decide +kernel
theorem dL_isWhole_366 : decode cL_isWhole 366 = .ok (.invokestatic 302, 3) := by decide +kernel
theorem dL_isWhole_369 : decode cL_isWhole 369 = .ok (.bipush 8, 2) := by decide +kernel
theorem dL_isWhole_371 : decode cL_isWhole 371 = .ok (.if_icmp .gt 25, 3) := by decide +kernel
theorem dL_isWhole_374 : decode cL_isWhole 374 = .ok (.iload 11, 2) := by decide +kernel
theorem dL_isWhole_376 : decode cL_isWhole 376 = .ok (.aload_n 0, 1) := by decide +kernel
theorem dL_isWhole_377 : decode cL_isWhole 377 = .ok (.iload 10, 2) := by decide +kernel
theorem dL_isWhole_379 : decode cL_isWhole 379 = .ok (.invokestatic 302, 3) := by decide +kernel
theorem dL_isWhole_382 : decode cL_isWhole 382 = .ok (.if_icmp .ne 14, 3) := by decide +kernel
theorem dL_isWhole_385 : decode cL_isWhole 385 = .ok (.aload_n 0, 1) := by decide +kernel
theorem dL_isWhole_386 : decode cL_isWhole 386 = .ok (.iload 10, 2) := by decide +kernel
theorem dL_isWhole_388 : decode cL_isWhole 388 = .ok (.bipush 100, 2) := by decide +kernel
theorem dL_isWhole_390 : decode cL_isWhole 390 = .ok (.invokestatic 336, 3) := by decide +kernel
theorem dL_isWhole_393 : decode cL_isWhole 393 = .ok (.ifCond .eq 5, 3) := by decide +kernel
theorem dL_isWhole_396 : decode cL_isWhole 396 = .ok (.iconst 0, 1) := by decide +kernel
theorem dL_isWhole_397 : decode cL_isWhole 397 = .ok (.ireturn, 1) := by decide +kernel
theorem dL_isWhole_398 : decode cL_isWhole 398 = .ok (.aload_n 0, 1) := by decide +kernel
