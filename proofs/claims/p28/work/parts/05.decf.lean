theorem dL_cell_0 : decode cL_cell 0 = .ok (.iload_n 1, 1) := by decide +kernel
theorem dL_cell_1 : decode cL_cell 1 = .ok (.aload_n 0, 1) := by decide +kernel
theorem dL_cell_2 : decode cL_cell 2 = .ok (.arraylength, 1) := by decide +kernel
theorem dL_cell_3 : decode cL_cell 3 = .ok (.if_icmp .ge 9, 3) := by decide +kernel
theorem dL_cell_6 : decode cL_cell 6 = .ok (.aload_n 0, 1) := by decide +kernel
theorem dL_cell_7 : decode cL_cell 7 = .ok (.iload_n 1, 1) := by decide +kernel
theorem dL_cell_8 : decode cL_cell 8 = .ok (.iaload, 1) := by decide +kernel
theorem dL_cell_9 : decode cL_cell 9 = .ok (.goto 10, 3) := by decide +kernel
theorem dL_cell_12 : decode cL_cell 12 = .ok (.ldc 7, 2) := by decide +kernel
theorem dL_cell_14 : decode cL_cell 14 = .ok (.iload_n 1, 1) := by decide +kernel
theorem dL_cell_15 : decode cL_cell 15 = .ok (.imul, 1) := by decide +kernel
theorem dL_cell_16 : decode cL_cell 16 = .ok (.bipush 109, 2) := by decide +kernel
theorem dL_cell_18 : decode cL_cell 18 = .ok (.iadd, 1) := by decide +kernel
theorem dL_cell_19 : decode cL_cell 19 = .ok (.ldc 8, 2) := by decide +kernel
theorem dL_cell_21 : decode cL_cell 21 = .ok (.iand, 1) := by decide +kernel
theorem dL_cell_22 : decode cL_cell 22 = .ok (.ireturn, 1) := by decide +kernel
theorem dL_sound_0 : decode cL_sound 0 = .ok (.iconst 0, 1) := by decide +kernel
theorem dL_sound_1 : decode cL_sound 1 = .ok (.istore_n 1, 1) := by decide +kernel
theorem dL_sound_2 : decode cL_sound 2 = .ok (.iconst 0, 1) := by decide +kernel
theorem dL_sound_3 : decode cL_sound 3 = .ok (.istore_n 2, 1) := by decide +kernel
theorem dL_sound_4 : decode cL_sound 4 = .ok (.iconst 0, 1) := by decide +kernel
theorem dL_sound_5 : decode cL_sound 5 = .ok (.istore_n 3, 1) := by decide +kernel
theorem dL_sound_6 : decode cL_sound 6 = .ok (.aload_n 0, 1) := by decide +kernel
theorem dL_sound_7 : decode cL_sound 7 = .ok (.iconst 2, 1) := by decide +kernel
theorem dL_sound_8 : decode cL_sound 8 = .ok (.invokevirtual 9, 3) := by decide +kernel
theorem dL_sound_11 : decode cL_sound 11 = .ok (.istore 4, 2) := by decide +kernel
theorem dL_sound_13 : decode cL_sound 13 = .ok (.iconst 1, 1) := by decide +kernel
theorem dL_sound_14 : decode cL_sound 14 = .ok (.istore 5, 2) := by decide +kernel
theorem dL_sound_16 : decode cL_sound 16 = .ok (.iconst 0, 1) := by decide +kernel
theorem dL_sound_17 : decode cL_sound 17 = .ok (.istore 6, 2) := by decide +kernel
theorem dL_sound_19 : decode cL_sound 19 = .ok (.iload 6, 2) := by decide +kernel
theorem dL_sound_21 : decode cL_sound 21 = .ok (.aload_n 0, 1) := by decide +kernel
theorem dL_sound_22 : decode cL_sound 22 = .ok (.iconst 3, 1) := by decide +kernel
theorem dL_sound_23 : decode cL_sound 23 = .ok (.invokevirtual 9, 3) := by decide +kernel
theorem dL_sound_26 : decode cL_sound 26 = .ok (.if_icmp .ge 261, 3) := by decide +kernel
theorem dL_sound_29 : decode cL_sound 29 = .ok (.iload 5, 2) := by decide +kernel
theorem dL_sound_31 : decode cL_sound 31 = .ok (.ifCond .eq 256, 3) := by decide +kernel
theorem dL_sound_34 : decode cL_sound 34 = .ok (.aload_n 0, 1) := by decide +kernel
theorem dL_sound_35 : decode cL_sound 35 = .ok (.iload 6, 2) := by decide +kernel
theorem dL_sound_37 : decode cL_sound 37 = .ok (.iconst 2, 1) := by decide +kernel
theorem dL_sound_38 : decode cL_sound 38 = .ok (.invokevirtual 15, 3) := by decide +kernel
theorem dL_sound_41 : decode cL_sound 41 = .ok (.istore 7, 2) := by decide +kernel
theorem dL_sound_43 : decode cL_sound 43 = .ok (.iload_n 2, 1) := by decide +kernel
theorem dL_sound_44 : decode cL_sound 44 = .ok (.iload 7, 2) := by decide +kernel
theorem dL_sound_46 : decode cL_sound 46 = .ok (.ifCond .ne 7, 3) := by decide +kernel
theorem dL_sound_49 : decode cL_sound 49 = .ok (.iconst 1, 1) := by decide +kernel
theorem dL_sound_50 : decode cL_sound 50 = .ok (.goto 4, 3) := by decide +kernel
theorem dL_sound_53 : decode cL_sound 53 = .ok (.iconst 0, 1) := by decide +kernel
theorem dL_sound_54 : decode cL_sound 54 = .ok (.iadd, 1) := by decide +kernel
theorem dL_sound_55 : decode cL_sound 55 = .ok (.istore_n 2, 1) := by decide +kernel
theorem dL_sound_56 : decode cL_sound 56 = .ok (.iload_n 3, 1) := by decide +kernel
theorem dL_sound_57 : decode cL_sound 57 = .ok (.iload 7, 2) := by decide +kernel
theorem dL_sound_59 : decode cL_sound 59 = .ok (.iconst 1, 1) := by decide +kernel
theorem dL_sound_60 : decode cL_sound 60 = .ok (.if_icmp .ne 7, 3) := by decide +kernel
theorem dL_sound_63 : decode cL_sound 63 = .ok (.iconst 1, 1) := by decide +kernel
theorem dL_sound_64 : decode cL_sound 64 = .ok (.goto 4, 3) := by decide +kernel
theorem dL_sound_67 : decode cL_sound 67 = .ok (.iconst 0, 1) := by decide +kernel
theorem dL_sound_68 : decode cL_sound 68 = .ok (.iadd, 1) := by decide +kernel
theorem dL_sound_69 : decode cL_sound 69 = .ok (.istore_n 3, 1) := by decide +kernel
theorem dL_sound_70 : decode cL_sound 70 = .ok (.iload_n 1, 1) := by decide +kernel
theorem dL_sound_71 : decode cL_sound 71 = .ok (.iload 7, 2) := by decide +kernel
theorem dL_sound_73 : decode cL_sound 73 = .ok (.ifCond .ne 13, 3) := by decide +kernel
theorem dL_sound_76 : decode cL_sound 76 = .ok (.aload_n 0, 1) := by decide +kernel
theorem dL_sound_77 : decode cL_sound 77 = .ok (.iload 6, 2) := by decide +kernel
theorem dL_sound_79 : decode cL_sound 79 = .ok (.iconst 1, 1) := by decide +kernel
theorem dL_sound_80 : decode cL_sound 80 = .ok (.invokevirtual 15, 3) := by decide +kernel
theorem dL_sound_83 : decode cL_sound 83 = .ok (.goto 4, 3) := by decide +kernel
theorem dL_sound_86 : decode cL_sound 86 = .ok (.iconst 0, 1) := by decide +kernel
theorem dL_sound_87 : decode cL_sound 87 = .ok (.iadd, 1) := by decide +kernel
theorem dL_sound_88 : decode cL_sound 88 = .ok (.istore_n 1, 1) := by decide +kernel
theorem dL_sound_89 : decode cL_sound 89 = .ok (.aload_n 0, 1) := by decide +kernel
theorem dL_sound_90 : decode cL_sound 90 = .ok (.iload 6, 2) := by decide +kernel
theorem dL_sound_92 : decode cL_sound 92 = .ok (.iconst 3, 1) := by decide +kernel
theorem dL_sound_93 : decode cL_sound 93 = .ok (.invokevirtual 15, 3) := by decide +kernel
theorem dL_sound_96 : decode cL_sound 96 = .ok (.istore 8, 2) := by decide +kernel
theorem dL_sound_98 : decode cL_sound 98 = .ok (.aload_n 0, 1) := by decide +kernel
theorem dL_sound_99 : decode cL_sound 99 = .ok (.iload 6, 2) := by decide +kernel
theorem dL_sound_101 : decode cL_sound 101 = .ok (.iconst 1, 1) := by decide +kernel
theorem dL_sound_102 : decode cL_sound 102 = .ok (.invokevirtual 15, 3) := by decide +kernel
theorem dL_sound_105 : decode cL_sound 105 = .ok (.ifCond .lt 106, 3) := by decide +kernel
theorem dL_sound_108 : decode cL_sound 108 = .ok (.iload 7, 2) := by decide +kernel
theorem dL_sound_110 : decode cL_sound 110 = .ok (.ifCond .ne 52, 3) := by decide +kernel
theorem dL_sound_113 : decode cL_sound 113 = .ok (.aload_n 0, 1) := by decide +kernel
theorem dL_sound_114 : decode cL_sound 114 = .ok (.iload 8, 2) := by decide +kernel
theorem dL_sound_116 : decode cL_sound 116 = .ok (.invokevirtual 19, 3) := by decide +kernel
theorem dL_sound_119 : decode cL_sound 119 = .ok (.iload 6, 2) := by decide +kernel
theorem dL_sound_121 : decode cL_sound 121 = .ok (.if_icmp .ne 90, 3) := by decide +kernel
theorem dL_sound_124 : decode cL_sound 124 = .ok (.aload_n 0, 1) := by decide +kernel
theorem dL_sound_125 : decode cL_sound 125 = .ok (.iload 6, 2) := by decide +kernel
theorem dL_sound_127 : decode cL_sound 127 = .ok (.iconst 4, 1) := by decide +kernel
theorem dL_sound_128 : decode cL_sound 128 = .ok (.invokevirtual 15, 3) := by decide +kernel
theorem dL_sound_131 : decode cL_sound 131 = .ok (.ifCond .lt 80, 3) := by decide +kernel
theorem dL_sound_134 : decode cL_sound 134 = .ok (.aload_n 0, 1) := by decide +kernel
theorem dL_sound_135 : decode cL_sound 135 = .ok (.iload 6, 2) := by decide +kernel
theorem dL_sound_137 : decode cL_sound 137 = .ok (.iconst 4, 1) := by decide +kernel
theorem dL_sound_138 : decode cL_sound 138 = .ok (.invokevirtual 15, 3) := by decide +kernel
theorem dL_sound_141 : decode cL_sound 141 = .ok (.iload 4, 2) := by decide +kernel
theorem dL_sound_143 : decode cL_sound 143 = .ok (.if_icmp .ge 68, 3) := by decide +kernel
theorem dL_sound_146 : decode cL_sound 146 = .ok (.aload_n 0, 1) := by decide +kernel
theorem dL_sound_147 : decode cL_sound 147 = .ok (.iload 6, 2) := by decide +kernel
theorem dL_sound_149 : decode cL_sound 149 = .ok (.bipush 7, 2) := by decide +kernel
theorem dL_sound_151 : decode cL_sound 151 = .ok (.invokevirtual 15, 3) := by decide +kernel
theorem dL_sound_154 : decode cL_sound 154 = .ok (.bipush (-6), 2) := by decide +kernel
theorem dL_sound_156 : decode cL_sound 156 = .ok (.if_icmp .ne 55, 3) := by decide +kernel
theorem dL_sound_159 : decode cL_sound 159 = .ok (.goto 48, 3) := by decide +kernel
theorem dL_sound_162 : decode cL_sound 162 = .ok (.iload 8, 2) := by decide +kernel
theorem dL_sound_164 : decode cL_sound 164 = .ok (.bipush (-6), 2) := by decide +kernel
theorem dL_sound_166 : decode cL_sound 166 = .ok (.if_icmp .ne 45, 3) := by decide +kernel
theorem dL_sound_169 : decode cL_sound 169 = .ok (.aload_n 0, 1) := by decide +kernel
theorem dL_sound_170 : decode cL_sound 170 = .ok (.iload 6, 2) := by decide +kernel
theorem dL_sound_172 : decode cL_sound 172 = .ok (.iconst 5, 1) := by decide +kernel
theorem dL_sound_173 : decode cL_sound 173 = .ok (.invokevirtual 15, 3) := by decide +kernel
theorem dL_sound_176 : decode cL_sound 176 = .ok (.bipush (-6), 2) := by decide +kernel
theorem dL_sound_178 : decode cL_sound 178 = .ok (.if_icmp .ne 33, 3) := by decide +kernel
theorem dL_sound_181 : decode cL_sound 181 = .ok (.aload_n 0, 1) := by decide +kernel
theorem dL_sound_182 : decode cL_sound 182 = .ok (.iload 6, 2) := by decide +kernel
theorem dL_sound_184 : decode cL_sound 184 = .ok (.bipush 7, 2) := by decide +kernel
theorem dL_sound_186 : decode cL_sound 186 = .ok (.invokevirtual 15, 3) := by decide +kernel
theorem dL_sound_189 : decode cL_sound 189 = .ok (.aload_n 0, 1) := by decide +kernel
theorem dL_sound_190 : decode cL_sound 190 = .ok (.iconst 0, 1) := by decide +kernel
theorem dL_sound_191 : decode cL_sound 191 = .ok (.invokevirtual 9, 3) := by decide +kernel
theorem dL_sound_194 : decode cL_sound 194 = .ok (.if_icmp .ge 17, 3) := by decide +kernel
theorem dL_sound_197 : decode cL_sound 197 = .ok (.aload_n 0, 1) := by decide +kernel
theorem dL_sound_198 : decode cL_sound 198 = .ok (.iload 6, 2) := by decide +kernel
theorem dL_sound_200 : decode cL_sound 200 = .ok (.invokevirtual 22, 3) := by decide +kernel
theorem dL_sound_203 : decode cL_sound 203 = .ok (.iconst 1, 1) := by decide +kernel
theorem dL_sound_204 : decode cL_sound 204 = .ok (.if_icmp .ne 7, 3) := by decide +kernel
theorem dL_sound_207 : decode cL_sound 207 = .ok (.iconst 1, 1) := by decide +kernel
theorem dL_sound_208 : decode cL_sound 208 = .ok (.goto 4, 3) := by decide +kernel
theorem dL_sound_211 : decode cL_sound 211 = .ok (.iconst 0, 1) := by decide +kernel
theorem dL_sound_212 : decode cL_sound 212 = .ok (.istore 5, 2) := by decide +kernel
theorem dL_sound_214 : decode cL_sound 214 = .ok (.iload 5, 2) := by decide +kernel
theorem dL_sound_216 : decode cL_sound 216 = .ok (.ifCond .eq 62, 3) := by decide +kernel
theorem dL_sound_219 : decode cL_sound 219 = .ok (.iload 7, 2) := by decide +kernel
theorem dL_sound_221 : decode cL_sound 221 = .ok (.ifCond .ne 37, 3) := by decide +kernel
theorem dL_sound_224 : decode cL_sound 224 = .ok (.aload_n 0, 1) := by decide +kernel
theorem dL_sound_225 : decode cL_sound 225 = .ok (.iload 6, 2) := by decide +kernel
theorem dL_sound_227 : decode cL_sound 227 = .ok (.bipush 6, 2) := by decide +kernel
theorem dL_sound_229 : decode cL_sound 229 = .ok (.invokevirtual 15, 3) := by decide +kernel
theorem dL_sound_232 : decode cL_sound 232 = .ok (.iconst 1, 1) := by decide +kernel
theorem dL_sound_233 : decode cL_sound 233 = .ok (.if_icmp .ne 7, 3) := by decide +kernel
theorem dL_sound_236 : decode cL_sound 236 = .ok (.iconst 1, 1) := by decide +kernel
theorem dL_sound_237 : decode cL_sound 237 = .ok (.goto 4, 3) := by decide +kernel
theorem dL_sound_240 : decode cL_sound 240 = .ok (.iconst 0, 1) := by decide +kernel
theorem dL_sound_241 : decode cL_sound 241 = .ok (.aload_n 0, 1) := by decide +kernel
theorem dL_sound_242 : decode cL_sound 242 = .ok (.iload 6, 2) := by decide +kernel
theorem dL_sound_244 : decode cL_sound 244 = .ok (.invokevirtual 25, 3) := by decide +kernel
theorem dL_sound_247 : decode cL_sound 247 = .ok (.ifCond .ne 7, 3) := by decide +kernel
theorem dL_sound_250 : decode cL_sound 250 = .ok (.iconst 1, 1) := by decide +kernel
theorem dL_sound_251 : decode cL_sound 251 = .ok (.goto 4, 3) := by decide +kernel
theorem dL_sound_254 : decode cL_sound 254 = .ok (.iconst 0, 1) := by decide +kernel
theorem dL_sound_255 : decode cL_sound 255 = .ok (.if_icmp .ne 23, 3) := by decide +kernel
theorem dL_sound_258 : decode cL_sound 258 = .ok (.iload 7, 2) := by decide +kernel
theorem dL_sound_260 : decode cL_sound 260 = .ok (.ifCond .eq 14, 3) := by decide +kernel
theorem dL_sound_263 : decode cL_sound 263 = .ok (.aload_n 0, 1) := by decide +kernel
theorem dL_sound_264 : decode cL_sound 264 = .ok (.iload 6, 2) := by decide +kernel
theorem dL_sound_266 : decode cL_sound 266 = .ok (.invokevirtual 25, 3) := by decide +kernel
theorem dL_sound_269 : decode cL_sound 269 = .ok (.bipush (-3), 2) := by decide +kernel
theorem dL_sound_271 : decode cL_sound 271 = .ok (.if_icmp .ne 7, 3) := by decide +kernel
theorem dL_sound_274 : decode cL_sound 274 = .ok (.iconst 1, 1) := by decide +kernel
theorem dL_sound_275 : decode cL_sound 275 = .ok (.goto 4, 3) := by decide +kernel
theorem dL_sound_278 : decode cL_sound 278 = .ok (.iconst 0, 1) := by decide +kernel
theorem dL_sound_279 : decode cL_sound 279 = .ok (.istore 5, 2) := by decide +kernel
theorem dL_sound_281 : decode cL_sound 281 = .ok (.iinc 6 1, 3) := by decide +kernel
theorem dL_sound_284 : decode cL_sound 284 = .ok (.goto (-265), 3) := by decide +kernel
theorem dL_sound_287 : decode cL_sound 287 = .ok (.iconst 0, 1) := by decide +kernel
theorem dL_sound_288 : decode cL_sound 288 = .ok (.istore 6, 2) := by decide +kernel
theorem dL_sound_290 : decode cL_sound 290 = .ok (.iconst 0, 1) := by decide +kernel
theorem dL_sound_291 : decode cL_sound 291 = .ok (.istore 7, 2) := by decide +kernel
theorem dL_sound_293 : decode cL_sound 293 = .ok (.iload 7, 2) := by decide +kernel
theorem dL_sound_295 : decode cL_sound 295 = .ok (.aload_n 0, 1) := by decide +kernel
theorem dL_sound_296 : decode cL_sound 296 = .ok (.iconst 1, 1) := by decide +kernel
theorem dL_sound_297 : decode cL_sound 297 = .ok (.invokevirtual 9, 3) := by decide +kernel
theorem dL_sound_300 : decode cL_sound 300 = .ok (.if_icmp .ge 54, 3) := by decide +kernel
theorem dL_sound_303 : decode cL_sound 303 = .ok (.iload 5, 2) := by decide +kernel
theorem dL_sound_305 : decode cL_sound 305 = .ok (.ifCond .eq 49, 3) := by decide +kernel
theorem dL_sound_308 : decode cL_sound 308 = .ok (.iload 6, 2) := by decide +kernel
theorem dL_sound_310 : decode cL_sound 310 = .ok (.aload_n 0, 1) := by decide +kernel
theorem dL_sound_311 : decode cL_sound 311 = .ok (.iload 7, 2) := by decide +kernel
theorem dL_sound_313 : decode cL_sound 313 = .ok (.invokevirtual 19, 3) := by decide +kernel
theorem dL_sound_316 : decode cL_sound 316 = .ok (.ifCond .lt 7, 3) := by decide +kernel
theorem dL_sound_319 : decode cL_sound 319 = .ok (.iconst 1, 1) := by decide +kernel
theorem dL_sound_320 : decode cL_sound 320 = .ok (.goto 4, 3) := by decide +kernel
theorem dL_sound_323 : decode cL_sound 323 = .ok (.iconst 0, 1) := by decide +kernel
theorem dL_sound_324 : decode cL_sound 324 = .ok (.iadd, 1) := by decide +kernel
theorem dL_sound_325 : decode cL_sound 325 = .ok (.istore 6, 2) := by decide +kernel
theorem dL_sound_327 : decode cL_sound 327 = .ok (.aload_n 0, 1) := by decide +kernel
theorem dL_sound_328 : decode cL_sound 328 = .ok (.iload 7, 2) := by decide +kernel
theorem dL_sound_330 : decode cL_sound 330 = .ok (.invokevirtual 19, 3) := by decide +kernel
theorem dL_sound_333 : decode cL_sound 333 = .ok (.aload_n 0, 1) := by decide +kernel
theorem dL_sound_334 : decode cL_sound 334 = .ok (.iconst 3, 1) := by decide +kernel
theorem dL_sound_335 : decode cL_sound 335 = .ok (.invokevirtual 9, 3) := by decide +kernel
theorem dL_sound_338 : decode cL_sound 338 = .ok (.if_icmp .ge 7, 3) := by decide +kernel
theorem dL_sound_341 : decode cL_sound 341 = .ok (.iconst 1, 1) := by decide +kernel
theorem dL_sound_342 : decode cL_sound 342 = .ok (.goto 4, 3) := by decide +kernel
theorem dL_sound_345 : decode cL_sound 345 = .ok (.iconst 0, 1) := by decide +kernel
theorem dL_sound_346 : decode cL_sound 346 = .ok (.istore 5, 2) := by decide +kernel
theorem dL_sound_348 : decode cL_sound 348 = .ok (.iinc 7 1, 3) := by decide +kernel
theorem dL_sound_351 : decode cL_sound 351 = .ok (.goto (-58), 3) := by decide +kernel
theorem dL_sound_354 : decode cL_sound 354 = .ok (.iload 5, 2) := by decide +kernel
theorem dL_sound_356 : decode cL_sound 356 = .ok (.ifCond .eq 68, 3) := by decide +kernel
theorem dL_sound_359 : decode cL_sound 359 = .ok (.iload 6, 2) := by decide +kernel
theorem dL_sound_361 : decode cL_sound 361 = .ok (.iload_n 2, 1) := by decide +kernel
theorem dL_sound_362 : decode cL_sound 362 = .ok (.if_icmp .ne 62, 3) := by decide +kernel
theorem dL_sound_365 : decode cL_sound 365 = .ok (.aload_n 0, 1) := by decide +kernel
theorem dL_sound_366 : decode cL_sound 366 = .ok (.iconst 4, 1) := by decide +kernel
theorem dL_sound_367 : decode cL_sound 367 = .ok (.invokevirtual 9, 3) := by decide +kernel
theorem dL_sound_370 : decode cL_sound 370 = .ok (.iload_n 2, 1) := by decide +kernel
theorem dL_sound_371 : decode cL_sound 371 = .ok (.if_icmp .ne 53, 3) := by decide +kernel
theorem dL_sound_374 : decode cL_sound 374 = .ok (.aload_n 0, 1) := by decide +kernel
theorem dL_sound_375 : decode cL_sound 375 = .ok (.iconst 5, 1) := by decide +kernel
theorem dL_sound_376 : decode cL_sound 376 = .ok (.invokevirtual 9, 3) := by decide +kernel
theorem dL_sound_379 : decode cL_sound 379 = .ok (.iload_n 3, 1) := by decide +kernel
theorem dL_sound_380 : decode cL_sound 380 = .ok (.if_icmp .ne 44, 3) := by decide +kernel
theorem dL_sound_383 : decode cL_sound 383 = .ok (.aload_n 0, 1) := by decide +kernel
theorem dL_sound_384 : decode cL_sound 384 = .ok (.bipush 6, 2) := by decide +kernel
theorem dL_sound_386 : decode cL_sound 386 = .ok (.invokevirtual 9, 3) := by decide +kernel
theorem dL_sound_389 : decode cL_sound 389 = .ok (.aload_n 0, 1) := by decide +kernel
theorem dL_sound_390 : decode cL_sound 390 = .ok (.iconst 3, 1) := by decide +kernel
theorem dL_sound_391 : decode cL_sound 391 = .ok (.invokevirtual 9, 3) := by decide +kernel
theorem dL_sound_394 : decode cL_sound 394 = .ok (.iload_n 2, 1) := by decide +kernel
theorem dL_sound_395 : decode cL_sound 395 = .ok (.isub, 1) := by decide +kernel
theorem dL_sound_396 : decode cL_sound 396 = .ok (.iload_n 3, 1) := by decide +kernel
theorem dL_sound_397 : decode cL_sound 397 = .ok (.isub, 1) := by decide +kernel
theorem dL_sound_398 : decode cL_sound 398 = .ok (.if_icmp .ne 26, 3) := by decide +kernel
theorem dL_sound_401 : decode cL_sound 401 = .ok (.aload_n 0, 1) := by decide +kernel
theorem dL_sound_402 : decode cL_sound 402 = .ok (.bipush 8, 2) := by decide +kernel
theorem dL_sound_404 : decode cL_sound 404 = .ok (.invokevirtual 9, 3) := by decide +kernel
theorem dL_sound_407 : decode cL_sound 407 = .ok (.ifCond .lt 17, 3) := by decide +kernel
theorem dL_sound_410 : decode cL_sound 410 = .ok (.aload_n 0, 1) := by decide +kernel
theorem dL_sound_411 : decode cL_sound 411 = .ok (.bipush 8, 2) := by decide +kernel
theorem dL_sound_413 : decode cL_sound 413 = .ok (.invokevirtual 9, 3) := by decide +kernel
theorem dL_sound_416 : decode cL_sound 416 = .ok (.iconst 4, 1) := by decide +kernel
theorem dL_sound_417 : decode cL_sound 417 = .ok (.if_icmp .gt 7, 3) := by decide +kernel
theorem dL_sound_420 : decode cL_sound 420 = .ok (.iconst 1, 1) := by decide +kernel
theorem dL_sound_421 : decode cL_sound 421 = .ok (.goto 4, 3) := by decide +kernel
theorem dL_sound_424 : decode cL_sound 424 = .ok (.iconst 0, 1) := by decide +kernel
theorem dL_sound_425 : decode cL_sound 425 = .ok (.istore 5, 2) := by decide +kernel
theorem dL_sound_427 : decode cL_sound 427 = .ok (.iload 5, 2) := by decide +kernel
theorem dL_sound_429 : decode cL_sound 429 = .ok (.ifCond .eq 75, 3) := by decide +kernel
theorem dL_sound_432 : decode cL_sound 432 = .ok (.aload_n 0, 1) := by decide +kernel
theorem dL_sound_433 : decode cL_sound 433 = .ok (.bipush 12, 2) := by decide +kernel
theorem dL_sound_435 : decode cL_sound 435 = .ok (.invokevirtual 9, 3) := by decide +kernel
theorem dL_sound_438 : decode cL_sound 438 = .ok (.aload_n 0, 1) := by decide +kernel
theorem dL_sound_439 : decode cL_sound 439 = .ok (.bipush 13, 2) := by decide +kernel
theorem dL_sound_441 : decode cL_sound 441 = .ok (.invokevirtual 9, 3) := by decide +kernel
theorem dL_sound_444 : decode cL_sound 444 = .ok (.aload_n 0, 1) := by decide +kernel
theorem dL_sound_445 : decode cL_sound 445 = .ok (.bipush 14, 2) := by decide +kernel
theorem dL_sound_447 : decode cL_sound 447 = .ok (.invokevirtual 9, 3) := by decide +kernel
theorem dL_sound_450 : decode cL_sound 450 = .ok (.iadd, 1) := by decide +kernel
theorem dL_sound_451 : decode cL_sound 451 = .ok (.aload_n 0, 1) := by decide +kernel
theorem dL_sound_452 : decode cL_sound 452 = .ok (.bipush 15, 2) := by decide +kernel
theorem dL_sound_454 : decode cL_sound 454 = .ok (.invokevirtual 9, 3) := by decide +kernel
theorem dL_sound_457 : decode cL_sound 457 = .ok (.iadd, 1) := by decide +kernel
theorem dL_sound_458 : decode cL_sound 458 = .ok (.iload_n 1, 1) := by decide +kernel
theorem dL_sound_459 : decode cL_sound 459 = .ok (.iadd, 1) := by decide +kernel
theorem dL_sound_460 : decode cL_sound 460 = .ok (.if_icmp .ne 44, 3) := by decide +kernel
theorem dL_sound_463 : decode cL_sound 463 = .ok (.aload_n 0, 1) := by decide +kernel
theorem dL_sound_464 : decode cL_sound 464 = .ok (.aload_n 0, 1) := by decide +kernel
theorem dL_sound_465 : decode cL_sound 465 = .ok (.iconst 1, 1) := by decide +kernel
theorem dL_sound_466 : decode cL_sound 466 = .ok (.invokevirtual 9, 3) := by decide +kernel
theorem dL_sound_469 : decode cL_sound 469 = .ok (.invokevirtual 19, 3) := by decide +kernel
theorem dL_sound_472 : decode cL_sound 472 = .ok (.iconst (-1), 1) := by decide +kernel
theorem dL_sound_473 : decode cL_sound 473 = .ok (.if_icmp .ne 31, 3) := by decide +kernel
theorem dL_sound_476 : decode cL_sound 476 = .ok (.aload_n 0, 1) := by decide +kernel
theorem dL_sound_477 : decode cL_sound 477 = .ok (.aload_n 0, 1) := by decide +kernel
theorem dL_sound_478 : decode cL_sound 478 = .ok (.iconst 3, 1) := by decide +kernel
theorem dL_sound_479 : decode cL_sound 479 = .ok (.invokevirtual 9, 3) := by decide +kernel
theorem dL_sound_482 : decode cL_sound 482 = .ok (.iconst 0, 1) := by decide +kernel
theorem dL_sound_483 : decode cL_sound 483 = .ok (.invokevirtual 15, 3) := by decide +kernel
theorem dL_sound_486 : decode cL_sound 486 = .ok (.iconst (-1), 1) := by decide +kernel
theorem dL_sound_487 : decode cL_sound 487 = .ok (.if_icmp .ne 17, 3) := by decide +kernel
theorem dL_sound_490 : decode cL_sound 490 = .ok (.aload_n 0, 1) := by decide +kernel
theorem dL_sound_491 : decode cL_sound 491 = .ok (.bipush 17, 2) := by decide +kernel
theorem dL_sound_493 : decode cL_sound 493 = .ok (.invokevirtual 9, 3) := by decide +kernel
theorem dL_sound_496 : decode cL_sound 496 = .ok (.iconst 5, 1) := by decide +kernel
theorem dL_sound_497 : decode cL_sound 497 = .ok (.if_icmp .gt 7, 3) := by decide +kernel
theorem dL_sound_500 : decode cL_sound 500 = .ok (.iconst 1, 1) := by decide +kernel
theorem dL_sound_501 : decode cL_sound 501 = .ok (.goto 4, 3) := by decide +kernel
theorem dL_sound_504 : decode cL_sound 504 = .ok (.iconst 0, 1) := by decide +kernel
theorem dL_sound_505 : decode cL_sound 505 = .ok (.ireturn, 1) := by decide +kernel
theorem dL_minutes_0 : decode cL_minutes 0 = .ok (.aload_n 0, 1) := by decide +kernel
theorem dL_minutes_1 : decode cL_minutes 1 = .ok (.iload_n 2, 1) := by decide +kernel
theorem dL_minutes_2 : decode cL_minutes 2 = .ok (.invokevirtual 28, 3) := by decide +kernel
theorem dL_minutes_5 : decode cL_minutes 5 = .ok (.istore_n 3, 1) := by decide +kernel
theorem dL_minutes_6 : decode cL_minutes 6 = .ok (.aload_n 0, 1) := by decide +kernel
theorem dL_minutes_7 : decode cL_minutes 7 = .ok (.iload_n 2, 1) := by decide +kernel
theorem dL_minutes_8 : decode cL_minutes 8 = .ok (.invokevirtual 31, 3) := by decide +kernel
theorem dL_minutes_11 : decode cL_minutes 11 = .ok (.istore 4, 2) := by decide +kernel
theorem dL_minutes_13 : decode cL_minutes 13 = .ok (.aload_n 0, 1) := by decide +kernel
theorem dL_minutes_14 : decode cL_minutes 14 = .ok (.iconst 0, 1) := by decide +kernel
theorem dL_minutes_15 : decode cL_minutes 15 = .ok (.invokevirtual 34, 3) := by decide +kernel
theorem dL_minutes_18 : decode cL_minutes 18 = .ok (.istore 5, 2) := by decide +kernel
theorem dL_minutes_20 : decode cL_minutes 20 = .ok (.aload_n 0, 1) := by decide +kernel
theorem dL_minutes_21 : decode cL_minutes 21 = .ok (.iconst 0, 1) := by decide +kernel
theorem dL_minutes_22 : decode cL_minutes 22 = .ok (.invokevirtual 37, 3) := by decide +kernel
theorem dL_minutes_25 : decode cL_minutes 25 = .ok (.aload_n 0, 1) := by decide +kernel
theorem dL_minutes_26 : decode cL_minutes 26 = .ok (.iconst 0, 1) := by decide +kernel
theorem dL_minutes_27 : decode cL_minutes 27 = .ok (.invokevirtual 9, 3) := by decide +kernel
theorem dL_minutes_30 : decode cL_minutes 30 = .ok (.if_icmp .ne 29, 3) := by decide +kernel
theorem dL_minutes_33 : decode cL_minutes 33 = .ok (.iload_n 3, 1) := by decide +kernel
theorem dL_minutes_34 : decode cL_minutes 34 = .ok (.ifCond .lt 7, 3) := by decide +kernel
theorem dL_minutes_37 : decode cL_minutes 37 = .ok (.iconst 1, 1) := by decide +kernel
theorem dL_minutes_38 : decode cL_minutes 38 = .ok (.goto 4, 3) := by decide +kernel
theorem dL_minutes_41 : decode cL_minutes 41 = .ok (.iconst 0, 1) := by decide +kernel
theorem dL_minutes_42 : decode cL_minutes 42 = .ok (.iload 4, 2) := by decide +kernel
theorem dL_minutes_44 : decode cL_minutes 44 = .ok (.ifCond .lt 7, 3) := by decide +kernel
theorem dL_minutes_47 : decode cL_minutes 47 = .ok (.iconst 1, 1) := by decide +kernel
theorem dL_minutes_48 : decode cL_minutes 48 = .ok (.goto 4, 3) := by decide +kernel
theorem dL_minutes_51 : decode cL_minutes 51 = .ok (.iconst 0, 1) := by decide +kernel
theorem dL_minutes_52 : decode cL_minutes 52 = .ok (.if_icmp .ne 7, 3) := by decide +kernel
theorem dL_minutes_55 : decode cL_minutes 55 = .ok (.iconst 1, 1) := by decide +kernel
theorem dL_minutes_56 : decode cL_minutes 56 = .ok (.goto 4, 3) := by decide +kernel
theorem dL_minutes_59 : decode cL_minutes 59 = .ok (.iconst 0, 1) := by decide +kernel
theorem dL_minutes_60 : decode cL_minutes 60 = .ok (.istore 6, 2) := by decide +kernel
theorem dL_minutes_62 : decode cL_minutes 62 = .ok (.aload_n 0, 1) := by decide +kernel
theorem dL_minutes_63 : decode cL_minutes 63 = .ok (.iconst 5, 1) := by decide +kernel
theorem dL_minutes_64 : decode cL_minutes 64 = .ok (.invokevirtual 9, 3) := by decide +kernel
theorem dL_minutes_67 : decode cL_minutes 67 = .ok (.istore 7, 2) := by decide +kernel
theorem dL_minutes_69 : decode cL_minutes 69 = .ok (.aload_n 0, 1) := by decide +kernel
theorem dL_minutes_70 : decode cL_minutes 70 = .ok (.iload_n 1, 1) := by decide +kernel
theorem dL_minutes_71 : decode cL_minutes 71 = .ok (.invokevirtual 40, 3) := by decide +kernel
theorem dL_minutes_74 : decode cL_minutes 74 = .ok (.istore 8, 2) := by decide +kernel
theorem dL_minutes_76 : decode cL_minutes 76 = .ok (.iload 6, 2) := by decide +kernel
theorem dL_minutes_78 : decode cL_minutes 78 = .ok (.ifCond .eq 79, 3) := by decide +kernel
theorem dL_minutes_81 : decode cL_minutes 81 = .ok (.aload_n 0, 1) := by decide +kernel
theorem dL_minutes_82 : decode cL_minutes 82 = .ok (.iconst 5, 1) := by decide +kernel
theorem dL_minutes_83 : decode cL_minutes 83 = .ok (.invokevirtual 9, 3) := by decide +kernel
theorem dL_minutes_86 : decode cL_minutes 86 = .ok (.iload 7, 2) := by decide +kernel
theorem dL_minutes_88 : decode cL_minutes 88 = .ok (.iload 8, 2) := by decide +kernel
theorem dL_minutes_90 : decode cL_minutes 90 = .ok (.iadd, 1) := by decide +kernel
theorem dL_minutes_91 : decode cL_minutes 91 = .ok (.if_icmp .ne 66, 3) := by decide +kernel
theorem dL_minutes_94 : decode cL_minutes 94 = .ok (.iload_n 3, 1) := by decide +kernel
theorem dL_minutes_95 : decode cL_minutes 95 = .ok (.ifCond .lt 8, 3) := by decide +kernel
theorem dL_minutes_98 : decode cL_minutes 98 = .ok (.iload_n 3, 1) := by decide +kernel
theorem dL_minutes_99 : decode cL_minutes 99 = .ok (.iload_n 1, 1) := by decide +kernel
theorem dL_minutes_100 : decode cL_minutes 100 = .ok (.if_icmp .le 16, 3) := by decide +kernel
theorem dL_minutes_103 : decode cL_minutes 103 = .ok (.aload_n 0, 1) := by decide +kernel
theorem dL_minutes_104 : decode cL_minutes 104 = .ok (.iload_n 2, 1) := by decide +kernel
theorem dL_minutes_105 : decode cL_minutes 105 = .ok (.iconst 2, 1) := by decide +kernel
theorem dL_minutes_106 : decode cL_minutes 106 = .ok (.invokevirtual 15, 3) := by decide +kernel
theorem dL_minutes_109 : decode cL_minutes 109 = .ok (.iconst 1, 1) := by decide +kernel
theorem dL_minutes_110 : decode cL_minutes 110 = .ok (.if_icmp .eq 47, 3) := by decide +kernel
theorem dL_minutes_113 : decode cL_minutes 113 = .ok (.goto 24, 3) := by decide +kernel
theorem dL_minutes_116 : decode cL_minutes 116 = .ok (.aload_n 0, 1) := by decide +kernel
theorem dL_minutes_117 : decode cL_minutes 117 = .ok (.iload_n 2, 1) := by decide +kernel
theorem dL_minutes_118 : decode cL_minutes 118 = .ok (.iconst 2, 1) := by decide +kernel
theorem dL_minutes_119 : decode cL_minutes 119 = .ok (.invokevirtual 15, 3) := by decide +kernel
theorem dL_minutes_122 : decode cL_minutes 122 = .ok (.iconst 1, 1) := by decide +kernel
theorem dL_minutes_123 : decode cL_minutes 123 = .ok (.if_icmp .ne 34, 3) := by decide +kernel
theorem dL_minutes_126 : decode cL_minutes 126 = .ok (.aload_n 0, 1) := by decide +kernel
theorem dL_minutes_127 : decode cL_minutes 127 = .ok (.iload_n 2, 1) := by decide +kernel
theorem dL_minutes_128 : decode cL_minutes 128 = .ok (.iconst 1, 1) := by decide +kernel
theorem dL_minutes_129 : decode cL_minutes 129 = .ok (.invokevirtual 15, 3) := by decide +kernel
theorem dL_minutes_132 : decode cL_minutes 132 = .ok (.iload 4, 2) := by decide +kernel
theorem dL_minutes_134 : decode cL_minutes 134 = .ok (.if_icmp .ne 23, 3) := by decide +kernel
theorem dL_minutes_137 : decode cL_minutes 137 = .ok (.iload 8, 2) := by decide +kernel
theorem dL_minutes_139 : decode cL_minutes 139 = .ok (.ifCond .eq 14, 3) := by decide +kernel
theorem dL_minutes_142 : decode cL_minutes 142 = .ok (.aload_n 0, 1) := by decide +kernel
theorem dL_minutes_143 : decode cL_minutes 143 = .ok (.iload 5, 2) := by decide +kernel
theorem dL_minutes_145 : decode cL_minutes 145 = .ok (.iconst 2, 1) := by decide +kernel
theorem dL_minutes_146 : decode cL_minutes 146 = .ok (.invokevirtual 15, 3) := by decide +kernel
theorem dL_minutes_149 : decode cL_minutes 149 = .ok (.iconst 1, 1) := by decide +kernel
theorem dL_minutes_150 : decode cL_minutes 150 = .ok (.if_icmp .ne 7, 3) := by decide +kernel
theorem dL_minutes_153 : decode cL_minutes 153 = .ok (.iconst 1, 1) := by decide +kernel
theorem dL_minutes_154 : decode cL_minutes 154 = .ok (.goto 4, 3) := by decide +kernel
theorem dL_minutes_157 : decode cL_minutes 157 = .ok (.iconst 0, 1) := by decide +kernel
theorem dL_minutes_158 : decode cL_minutes 158 = .ok (.istore 6, 2) := by decide +kernel
theorem dL_minutes_160 : decode cL_minutes 160 = .ok (.aload_n 0, 1) := by decide +kernel
theorem dL_minutes_161 : decode cL_minutes 161 = .ok (.bipush 13, 2) := by decide +kernel
theorem dL_minutes_163 : decode cL_minutes 163 = .ok (.invokevirtual 9, 3) := by decide +kernel
theorem dL_minutes_166 : decode cL_minutes 166 = .ok (.istore 9, 2) := by decide +kernel
theorem dL_minutes_168 : decode cL_minutes 168 = .ok (.aload_n 0, 1) := by decide +kernel
theorem dL_minutes_169 : decode cL_minutes 169 = .ok (.bipush 7, 2) := by decide +kernel
theorem dL_minutes_171 : decode cL_minutes 171 = .ok (.invokevirtual 9, 3) := by decide +kernel
theorem dL_minutes_174 : decode cL_minutes 174 = .ok (.istore 10, 2) := by decide +kernel
theorem dL_minutes_176 : decode cL_minutes 176 = .ok (.aload_n 0, 1) := by decide +kernel
theorem dL_minutes_177 : decode cL_minutes 177 = .ok (.bipush 8, 2) := by decide +kernel
theorem dL_minutes_179 : decode cL_minutes 179 = .ok (.invokevirtual 9, 3) := by decide +kernel
theorem dL_minutes_182 : decode cL_minutes 182 = .ok (.istore 11, 2) := by decide +kernel
theorem dL_minutes_184 : decode cL_minutes 184 = .ok (.iload 6, 2) := by decide +kernel
theorem dL_minutes_186 : decode cL_minutes 186 = .ok (.ifCond .eq 20, 3) := by decide +kernel
theorem dL_minutes_189 : decode cL_minutes 189 = .ok (.aload_n 0, 1) := by decide +kernel
theorem dL_minutes_190 : decode cL_minutes 190 = .ok (.iconst 0, 1) := by decide +kernel
theorem dL_minutes_191 : decode cL_minutes 191 = .ok (.invokevirtual 43, 3) := by decide +kernel
theorem dL_minutes_194 : decode cL_minutes 194 = .ok (.aload_n 0, 1) := by decide +kernel
theorem dL_minutes_195 : decode cL_minutes 195 = .ok (.iconst 0, 1) := by decide +kernel
theorem dL_minutes_196 : decode cL_minutes 196 = .ok (.invokevirtual 9, 3) := by decide +kernel
theorem dL_minutes_199 : decode cL_minutes 199 = .ok (.if_icmp .ne 7, 3) := by decide +kernel
theorem dL_minutes_202 : decode cL_minutes 202 = .ok (.iconst 1, 1) := by decide +kernel
theorem dL_minutes_203 : decode cL_minutes 203 = .ok (.goto 4, 3) := by decide +kernel
theorem dL_minutes_206 : decode cL_minutes 206 = .ok (.iconst 0, 1) := by decide +kernel
theorem dL_minutes_207 : decode cL_minutes 207 = .ok (.istore 6, 2) := by decide +kernel
theorem dL_minutes_209 : decode cL_minutes 209 = .ok (.iconst 0, 1) := by decide +kernel
theorem dL_minutes_210 : decode cL_minutes 210 = .ok (.istore 12, 2) := by decide +kernel
theorem dL_minutes_212 : decode cL_minutes 212 = .ok (.iload 12, 2) := by decide +kernel
theorem dL_minutes_214 : decode cL_minutes 214 = .ok (.iload_n 1, 1) := by decide +kernel
theorem dL_minutes_215 : decode cL_minutes 215 = .ok (.if_icmp .ge 46, 3) := by decide +kernel
theorem dL_minutes_218 : decode cL_minutes 218 = .ok (.iload 6, 2) := by decide +kernel
theorem dL_minutes_220 : decode cL_minutes 220 = .ok (.ifCond .eq 41, 3) := by decide +kernel
theorem dL_minutes_223 : decode cL_minutes 223 = .ok (.aload_n 0, 1) := by decide +kernel
theorem dL_minutes_224 : decode cL_minutes 224 = .ok (.iconst 1, 1) := by decide +kernel
theorem dL_minutes_225 : decode cL_minutes 225 = .ok (.invokevirtual 40, 3) := by decide +kernel
theorem dL_minutes_228 : decode cL_minutes 228 = .ok (.istore 13, 2) := by decide +kernel
theorem dL_minutes_230 : decode cL_minutes 230 = .ok (.iload 8, 2) := by decide +kernel
theorem dL_minutes_232 : decode cL_minutes 232 = .ok (.iload 13, 2) := by decide +kernel
theorem dL_minutes_234 : decode cL_minutes 234 = .ok (.isub, 1) := by decide +kernel
theorem dL_minutes_235 : decode cL_minutes 235 = .ok (.istore 8, 2) := by decide +kernel
theorem dL_minutes_237 : decode cL_minutes 237 = .ok (.iload 13, 2) := by decide +kernel
theorem dL_minutes_239 : decode cL_minutes 239 = .ok (.ifCond .lt 13, 3) := by decide +kernel
theorem dL_minutes_242 : decode cL_minutes 242 = .ok (.iload 13, 2) := by decide +kernel
theorem dL_minutes_244 : decode cL_minutes 244 = .ok (.iconst 1, 1) := by decide +kernel
theorem dL_minutes_245 : decode cL_minutes 245 = .ok (.if_icmp .gt 7, 3) := by decide +kernel
theorem dL_minutes_248 : decode cL_minutes 248 = .ok (.iconst 1, 1) := by decide +kernel
theorem dL_minutes_249 : decode cL_minutes 249 = .ok (.goto 4, 3) := by decide +kernel
theorem dL_minutes_252 : decode cL_minutes 252 = .ok (.iconst 0, 1) := by decide +kernel
theorem dL_minutes_253 : decode cL_minutes 253 = .ok (.istore 6, 2) := by decide +kernel
theorem dL_minutes_255 : decode cL_minutes 255 = .ok (.iinc 12 1, 3) := by decide +kernel
theorem dL_minutes_258 : decode cL_minutes 258 = .ok (.goto (-46), 3) := by decide +kernel
theorem dL_minutes_261 : decode cL_minutes 261 = .ok (.iload 6, 2) := by decide +kernel
theorem dL_minutes_263 : decode cL_minutes 263 = .ok (.ifCond .eq 45, 3) := by decide +kernel
theorem dL_minutes_266 : decode cL_minutes 266 = .ok (.iload 8, 2) := by decide +kernel
theorem dL_minutes_268 : decode cL_minutes 268 = .ok (.ifCond .ne 40, 3) := by decide +kernel
theorem dL_minutes_271 : decode cL_minutes 271 = .ok (.aload_n 0, 1) := by decide +kernel
theorem dL_minutes_272 : decode cL_minutes 272 = .ok (.bipush 13, 2) := by decide +kernel
theorem dL_minutes_274 : decode cL_minutes 274 = .ok (.invokevirtual 9, 3) := by decide +kernel
theorem dL_minutes_277 : decode cL_minutes 277 = .ok (.iload 9, 2) := by decide +kernel
theorem dL_minutes_279 : decode cL_minutes 279 = .ok (.if_icmp .ne 29, 3) := by decide +kernel
theorem dL_minutes_282 : decode cL_minutes 282 = .ok (.aload_n 0, 1) := by decide +kernel
theorem dL_minutes_283 : decode cL_minutes 283 = .ok (.bipush 7, 2) := by decide +kernel
theorem dL_minutes_285 : decode cL_minutes 285 = .ok (.invokevirtual 9, 3) := by decide +kernel
theorem dL_minutes_288 : decode cL_minutes 288 = .ok (.iload 10, 2) := by decide +kernel
theorem dL_minutes_290 : decode cL_minutes 290 = .ok (.if_icmp .ne 18, 3) := by decide +kernel
theorem dL_minutes_293 : decode cL_minutes 293 = .ok (.aload_n 0, 1) := by decide +kernel
theorem dL_minutes_294 : decode cL_minutes 294 = .ok (.bipush 8, 2) := by decide +kernel
theorem dL_minutes_296 : decode cL_minutes 296 = .ok (.invokevirtual 9, 3) := by decide +kernel
theorem dL_minutes_299 : decode cL_minutes 299 = .ok (.iload 11, 2) := by decide +kernel
theorem dL_minutes_301 : decode cL_minutes 301 = .ok (.if_icmp .ne 7, 3) := by decide +kernel
theorem dL_minutes_304 : decode cL_minutes 304 = .ok (.iconst 1, 1) := by decide +kernel
theorem dL_minutes_305 : decode cL_minutes 305 = .ok (.goto 4, 3) := by decide +kernel
theorem dL_minutes_308 : decode cL_minutes 308 = .ok (.iconst 0, 1) := by decide +kernel
theorem dL_minutes_309 : decode cL_minutes 309 = .ok (.ireturn, 1) := by decide +kernel
theorem dL_number_0 : decode cL_number 0 = .ok (.iconst 1, 1) := by decide +kernel
theorem dL_number_1 : decode cL_number 1 = .ok (.istore_n 2, 1) := by decide +kernel
theorem dL_number_2 : decode cL_number 2 = .ok (.iload_n 1, 1) := by decide +kernel
theorem dL_number_3 : decode cL_number 3 = .ok (.iload_n 2, 1) := by decide +kernel
theorem dL_number_4 : decode cL_number 4 = .ok (.idiv, 1) := by decide +kernel
theorem dL_number_5 : decode cL_number 5 = .ok (.bipush 9, 2) := by decide +kernel
theorem dL_number_7 : decode cL_number 7 = .ok (.if_icmp .le 11, 3) := by decide +kernel
theorem dL_number_10 : decode cL_number 10 = .ok (.iload_n 2, 1) := by decide +kernel
theorem dL_number_11 : decode cL_number 11 = .ok (.bipush 10, 2) := by decide +kernel
theorem dL_number_13 : decode cL_number 13 = .ok (.imul, 1) := by decide +kernel
theorem dL_number_14 : decode cL_number 14 = .ok (.istore_n 2, 1) := by decide +kernel
theorem dL_number_15 : decode cL_number 15 = .ok (.goto (-13), 3) := by decide +kernel
theorem dL_number_18 : decode cL_number 18 = .ok (.iload_n 2, 1) := by decide +kernel
theorem dL_number_19 : decode cL_number 19 = .ok (.istore_n 3, 1) := by decide +kernel
theorem dL_number_20 : decode cL_number 20 = .ok (.iload_n 3, 1) := by decide +kernel
theorem dL_number_21 : decode cL_number 21 = .ok (.ifCond .le 25, 3) := by decide +kernel
theorem dL_number_24 : decode cL_number 24 = .ok (.aload_n 0, 1) := by decide +kernel
theorem dL_number_25 : decode cL_number 25 = .ok (.bipush 48, 2) := by decide +kernel
theorem dL_number_27 : decode cL_number 27 = .ok (.iload_n 1, 1) := by decide +kernel
theorem dL_number_28 : decode cL_number 28 = .ok (.iload_n 3, 1) := by decide +kernel
theorem dL_number_29 : decode cL_number 29 = .ok (.idiv, 1) := by decide +kernel
theorem dL_number_30 : decode cL_number 30 = .ok (.bipush 10, 2) := by decide +kernel
theorem dL_number_32 : decode cL_number 32 = .ok (.irem, 1) := by decide +kernel
theorem dL_number_33 : decode cL_number 33 = .ok (.iadd, 1) := by decide +kernel
theorem dL_number_34 : decode cL_number 34 = .ok (.invokevirtual 46, 3) := by decide +kernel
theorem dL_number_37 : decode cL_number 37 = .ok (.pop, 1) := by decide +kernel
theorem dL_number_38 : decode cL_number 38 = .ok (.iload_n 3, 1) := by decide +kernel
theorem dL_number_39 : decode cL_number 39 = .ok (.bipush 10, 2) := by decide +kernel
theorem dL_number_41 : decode cL_number 41 = .ok (.idiv, 1) := by decide +kernel
theorem dL_number_42 : decode cL_number 42 = .ok (.istore_n 3, 1) := by decide +kernel
theorem dL_number_43 : decode cL_number 43 = .ok (.goto (-23), 3) := by decide +kernel
theorem dL_number_46 : decode cL_number 46 = .ok (.return_, 1) := by decide +kernel
theorem dL_strip_0 : decode cL_strip 0 = .ok (.aload_n 0, 1) := by decide +kernel
theorem dL_strip_1 : decode cL_strip 1 = .ok (.bipush 43, 2) := by decide +kernel
theorem dL_strip_3 : decode cL_strip 3 = .ok (.invokevirtual 46, 3) := by decide +kernel
theorem dL_strip_6 : decode cL_strip 6 = .ok (.pop, 1) := by decide +kernel
theorem dL_strip_7 : decode cL_strip 7 = .ok (.aload_n 0, 1) := by decide +kernel
theorem dL_strip_8 : decode cL_strip 8 = .ok (.iload_n 1, 1) := by decide +kernel
theorem dL_strip_9 : decode cL_strip 9 = .ok (.ifCond .ne 8, 3) := by decide +kernel
theorem dL_strip_12 : decode cL_strip 12 = .ok (.bipush 108, 2) := by decide +kernel
theorem dL_strip_14 : decode cL_strip 14 = .ok (.goto 15, 3) := by decide +kernel
theorem dL_strip_17 : decode cL_strip 17 = .ok (.iload_n 1, 1) := by decide +kernel
theorem dL_strip_18 : decode cL_strip 18 = .ok (.iconst 1, 1) := by decide +kernel
theorem dL_strip_19 : decode cL_strip 19 = .ok (.if_icmp .ne 8, 3) := by decide +kernel
theorem dL_strip_22 : decode cL_strip 22 = .ok (.bipush 109, 2) := by decide +kernel
theorem dL_strip_24 : decode cL_strip 24 = .ok (.goto 5, 3) := by decide +kernel
theorem dL_strip_27 : decode cL_strip 27 = .ok (.bipush 104, 2) := by decide +kernel
theorem dL_strip_29 : decode cL_strip 29 = .ok (.invokevirtual 46, 3) := by decide +kernel
theorem dL_strip_32 : decode cL_strip 32 = .ok (.pop, 1) := by decide +kernel
theorem dL_strip_33 : decode cL_strip 33 = .ok (.aload_n 0, 1) := by decide +kernel
theorem dL_strip_34 : decode cL_strip 34 = .ok (.iload_n 2, 1) := by decide +kernel
theorem dL_strip_35 : decode cL_strip 35 = .ok (.invokestatic 49, 3) := by decide +kernel
theorem dL_strip_38 : decode cL_strip 38 = .ok (.aload_n 0, 1) := by decide +kernel
theorem dL_strip_39 : decode cL_strip 39 = .ok (.bipush 64, 2) := by decide +kernel
theorem dL_strip_41 : decode cL_strip 41 = .ok (.invokevirtual 46, 3) := by decide +kernel
theorem dL_strip_44 : decode cL_strip 44 = .ok (.pop, 1) := by decide +kernel
theorem dL_strip_45 : decode cL_strip 45 = .ok (.aload_n 0, 1) := by decide +kernel
theorem dL_strip_46 : decode cL_strip 46 = .ok (.iload_n 3, 1) := by decide +kernel
theorem dL_strip_47 : decode cL_strip 47 = .ok (.invokestatic 49, 3) := by decide +kernel
theorem dL_strip_50 : decode cL_strip 50 = .ok (.return_, 1) := by decide +kernel
theorem dL_texts_0 : decode cL_texts 0 = .ok (.aload_n 0, 1) := by decide +kernel
theorem dL_texts_1 : decode cL_texts 1 = .ok (.invokevirtual 55, 3) := by decide +kernel
theorem dL_texts_4 : decode cL_texts 4 = .ok (.pop, 1) := by decide +kernel
theorem dL_texts_5 : decode cL_texts 5 = .ok (.aload_n 0, 1) := by decide +kernel
theorem dL_texts_6 : decode cL_texts 6 = .ok (.invokevirtual 59, 3) := by decide +kernel
theorem dL_texts_9 : decode cL_texts 9 = .ok (.bipush (-6), 2) := by decide +kernel
theorem dL_texts_11 : decode cL_texts 11 = .ok (.if_icmp .ne 7, 3) := by decide +kernel
theorem dL_texts_14 : decode cL_texts 14 = .ok (.iconst 1, 1) := by decide +kernel
theorem dL_texts_15 : decode cL_texts 15 = .ok (.goto 4, 3) := by decide +kernel
theorem dL_texts_18 : decode cL_texts 18 = .ok (.iconst 0, 1) := by decide +kernel
theorem dL_texts_19 : decode cL_texts 19 = .ok (.istore 5, 2) := by decide +kernel
theorem dL_texts_21 : decode cL_texts 21 = .ok (.aload_n 0, 1) := by decide +kernel
theorem dL_texts_22 : decode cL_texts 22 = .ok (.iload_n 1, 1) := by decide +kernel
theorem dL_texts_23 : decode cL_texts 23 = .ok (.iload_n 2, 1) := by decide +kernel
theorem dL_texts_24 : decode cL_texts 24 = .ok (.iload_n 3, 1) := by decide +kernel
theorem dL_texts_25 : decode cL_texts 25 = .ok (.invokestatic 62, 3) := by decide +kernel
theorem dL_texts_28 : decode cL_texts 28 = .ok (.aload_n 0, 1) := by decide +kernel
theorem dL_texts_29 : decode cL_texts 29 = .ok (.bipush 59, 2) := by decide +kernel
theorem dL_texts_31 : decode cL_texts 31 = .ok (.invokevirtual 46, 3) := by decide +kernel
theorem dL_texts_34 : decode cL_texts 34 = .ok (.istore 6, 2) := by decide +kernel
theorem dL_texts_36 : decode cL_texts 36 = .ok (.aload_n 0, 1) := by decide +kernel
theorem dL_texts_37 : decode cL_texts 37 = .ok (.bipush 116, 2) := by decide +kernel
theorem dL_texts_39 : decode cL_texts 39 = .ok (.invokevirtual 46, 3) := by decide +kernel
theorem dL_texts_42 : decode cL_texts 42 = .ok (.pop, 1) := by decide +kernel
theorem dL_texts_43 : decode cL_texts 43 = .ok (.iload 5, 2) := by decide +kernel
theorem dL_texts_45 : decode cL_texts 45 = .ok (.ifCond .eq 27, 3) := by decide +kernel
theorem dL_texts_48 : decode cL_texts 48 = .ok (.aload_n 0, 1) := by decide +kernel
theorem dL_texts_49 : decode cL_texts 49 = .ok (.invokevirtual 59, 3) := by decide +kernel
theorem dL_texts_52 : decode cL_texts 52 = .ok (.iload 6, 2) := by decide +kernel
theorem dL_texts_54 : decode cL_texts 54 = .ok (.iconst 1, 1) := by decide +kernel
theorem dL_texts_55 : decode cL_texts 55 = .ok (.iadd, 1) := by decide +kernel
theorem dL_texts_56 : decode cL_texts 56 = .ok (.if_icmp .ne 16, 3) := by decide +kernel
theorem dL_texts_59 : decode cL_texts 59 = .ok (.aload_n 0, 1) := by decide +kernel
theorem dL_texts_60 : decode cL_texts 60 = .ok (.invokevirtual 66, 3) := by decide +kernel
theorem dL_texts_63 : decode cL_texts 63 = .ok (.bipush (-3), 2) := by decide +kernel
theorem dL_texts_65 : decode cL_texts 65 = .ok (.if_icmp .ne 7, 3) := by decide +kernel
theorem dL_texts_68 : decode cL_texts 68 = .ok (.iconst 1, 1) := by decide +kernel
theorem dL_texts_69 : decode cL_texts 69 = .ok (.goto 4, 3) := by decide +kernel
theorem dL_texts_72 : decode cL_texts 72 = .ok (.iconst 0, 1) := by decide +kernel
theorem dL_texts_73 : decode cL_texts 73 = .ok (.istore 5, 2) := by decide +kernel
theorem dL_texts_75 : decode cL_texts 75 = .ok (.aload_n 0, 1) := by decide +kernel
theorem dL_texts_76 : decode cL_texts 76 = .ok (.bipush 48, 2) := by decide +kernel
theorem dL_texts_78 : decode cL_texts 78 = .ok (.invokevirtual 46, 3) := by decide +kernel
theorem dL_texts_81 : decode cL_texts 81 = .ok (.pop, 1) := by decide +kernel
theorem dL_texts_82 : decode cL_texts 82 = .ok (.iload 5, 2) := by decide +kernel
theorem dL_texts_84 : decode cL_texts 84 = .ok (.ifCond .eq 18, 3) := by decide +kernel
theorem dL_texts_87 : decode cL_texts 87 = .ok (.aload_n 0, 1) := by decide +kernel
theorem dL_texts_88 : decode cL_texts 88 = .ok (.invokevirtual 59, 3) := by decide +kernel
theorem dL_texts_91 : decode cL_texts 91 = .ok (.iload 6, 2) := by decide +kernel
theorem dL_texts_93 : decode cL_texts 93 = .ok (.iconst 1, 1) := by decide +kernel
theorem dL_texts_94 : decode cL_texts 94 = .ok (.iadd, 1) := by decide +kernel
theorem dL_texts_95 : decode cL_texts 95 = .ok (.if_icmp .ne 7, 3) := by decide +kernel
theorem dL_texts_98 : decode cL_texts 98 = .ok (.iconst 1, 1) := by decide +kernel
theorem dL_texts_99 : decode cL_texts 99 = .ok (.goto 4, 3) := by decide +kernel
theorem dL_texts_102 : decode cL_texts 102 = .ok (.iconst 0, 1) := by decide +kernel
theorem dL_texts_103 : decode cL_texts 103 = .ok (.istore 5, 2) := by decide +kernel
theorem dL_texts_105 : decode cL_texts 105 = .ok (.aload_n 0, 1) := by decide +kernel
theorem dL_texts_106 : decode cL_texts 106 = .ok (.invokevirtual 55, 3) := by decide +kernel
theorem dL_texts_109 : decode cL_texts 109 = .ok (.pop, 1) := by decide +kernel
theorem dL_texts_110 : decode cL_texts 110 = .ok (.aload_n 0, 1) := by decide +kernel
theorem dL_texts_111 : decode cL_texts 111 = .ok (.iload_n 1, 1) := by decide +kernel
theorem dL_texts_112 : decode cL_texts 112 = .ok (.iload_n 2, 1) := by decide +kernel
theorem dL_texts_113 : decode cL_texts 113 = .ok (.iload_n 3, 1) := by decide +kernel
theorem dL_texts_114 : decode cL_texts 114 = .ok (.invokestatic 62, 3) := by decide +kernel
theorem dL_texts_117 : decode cL_texts 117 = .ok (.aload_n 0, 1) := by decide +kernel
theorem dL_texts_118 : decode cL_texts 118 = .ok (.bipush 59, 2) := by decide +kernel
theorem dL_texts_120 : decode cL_texts 120 = .ok (.invokevirtual 46, 3) := by decide +kernel
theorem dL_texts_123 : decode cL_texts 123 = .ok (.pop, 1) := by decide +kernel
theorem dL_texts_124 : decode cL_texts 124 = .ok (.aload_n 0, 1) := by decide +kernel
theorem dL_texts_125 : decode cL_texts 125 = .ok (.bipush 116, 2) := by decide +kernel
theorem dL_texts_127 : decode cL_texts 127 = .ok (.invokevirtual 46, 3) := by decide +kernel
theorem dL_texts_130 : decode cL_texts 130 = .ok (.pop, 1) := by decide +kernel
theorem dL_texts_131 : decode cL_texts 131 = .ok (.aload_n 0, 1) := by decide +kernel
theorem dL_texts_132 : decode cL_texts 132 = .ok (.iload 4, 2) := by decide +kernel
theorem dL_texts_134 : decode cL_texts 134 = .ok (.invokestatic 49, 3) := by decide +kernel
theorem dL_texts_137 : decode cL_texts 137 = .ok (.aload_n 0, 1) := by decide +kernel
theorem dL_texts_138 : decode cL_texts 138 = .ok (.bipush 59, 2) := by decide +kernel
theorem dL_texts_140 : decode cL_texts 140 = .ok (.invokevirtual 46, 3) := by decide +kernel
theorem dL_texts_143 : decode cL_texts 143 = .ok (.pop, 1) := by decide +kernel
theorem dL_texts_144 : decode cL_texts 144 = .ok (.iload 5, 2) := by decide +kernel
theorem dL_texts_146 : decode cL_texts 146 = .ok (.ifCond .eq 29, 3) := by decide +kernel
theorem dL_texts_149 : decode cL_texts 149 = .ok (.aload_n 0, 1) := by decide +kernel
theorem dL_texts_150 : decode cL_texts 150 = .ok (.invokevirtual 59, 3) := by decide +kernel
theorem dL_texts_153 : decode cL_texts 153 = .ok (.bipush (-6), 2) := by decide +kernel
theorem dL_texts_155 : decode cL_texts 155 = .ok (.if_icmp .ne 20, 3) := by decide +kernel
theorem dL_texts_158 : decode cL_texts 158 = .ok (.aload_n 0, 1) := by decide +kernel
theorem dL_texts_159 : decode cL_texts 159 = .ok (.iconst 1, 1) := by decide +kernel
theorem dL_texts_160 : decode cL_texts 160 = .ok (.invokevirtual 37, 3) := by decide +kernel
theorem dL_texts_163 : decode cL_texts 163 = .ok (.aload_n 0, 1) := by decide +kernel
theorem dL_texts_164 : decode cL_texts 164 = .ok (.iconst 0, 1) := by decide +kernel
theorem dL_texts_165 : decode cL_texts 165 = .ok (.invokevirtual 9, 3) := by decide +kernel
theorem dL_texts_168 : decode cL_texts 168 = .ok (.if_icmp .ne 7, 3) := by decide +kernel
theorem dL_texts_171 : decode cL_texts 171 = .ok (.iconst 1, 1) := by decide +kernel
theorem dL_texts_172 : decode cL_texts 172 = .ok (.goto 4, 3) := by decide +kernel
theorem dL_texts_175 : decode cL_texts 175 = .ok (.iconst 0, 1) := by decide +kernel
theorem dL_texts_176 : decode cL_texts 176 = .ok (.istore 5, 2) := by decide +kernel
theorem dL_texts_178 : decode cL_texts 178 = .ok (.aload_n 0, 1) := by decide +kernel
theorem dL_texts_179 : decode cL_texts 179 = .ok (.iconst 0, 1) := by decide +kernel
theorem dL_texts_180 : decode cL_texts 180 = .ok (.invokevirtual 9, 3) := by decide +kernel
theorem dL_texts_183 : decode cL_texts 183 = .ok (.istore 7, 2) := by decide +kernel
theorem dL_texts_185 : decode cL_texts 185 = .ok (.aload_n 0, 1) := by decide +kernel
theorem dL_texts_186 : decode cL_texts 186 = .ok (.iconst 3, 1) := by decide +kernel
theorem dL_texts_187 : decode cL_texts 187 = .ok (.invokevirtual 9, 3) := by decide +kernel
theorem dL_texts_190 : decode cL_texts 190 = .ok (.istore 8, 2) := by decide +kernel
theorem dL_texts_192 : decode cL_texts 192 = .ok (.aload_n 0, 1) := by decide +kernel
theorem dL_texts_193 : decode cL_texts 193 = .ok (.invokevirtual 66, 3) := by decide +kernel
theorem dL_texts_196 : decode cL_texts 196 = .ok (.istore 9, 2) := by decide +kernel
theorem dL_texts_198 : decode cL_texts 198 = .ok (.aload_n 0, 1) := by decide +kernel
theorem dL_texts_199 : decode cL_texts 199 = .ok (.bipush 16, 2) := by decide +kernel
theorem dL_texts_201 : decode cL_texts 201 = .ok (.invokevirtual 9, 3) := by decide +kernel
theorem dL_texts_204 : decode cL_texts 204 = .ok (.istore 10, 2) := by decide +kernel
theorem dL_texts_206 : decode cL_texts 206 = .ok (.aload_n 0, 1) := by decide +kernel
theorem dL_texts_207 : decode cL_texts 207 = .ok (.bipush 13, 2) := by decide +kernel
theorem dL_texts_209 : decode cL_texts 209 = .ok (.invokevirtual 9, 3) := by decide +kernel
theorem dL_texts_212 : decode cL_texts 212 = .ok (.istore 11, 2) := by decide +kernel
theorem dL_texts_214 : decode cL_texts 214 = .ok (.aload_n 0, 1) := by decide +kernel
theorem dL_texts_215 : decode cL_texts 215 = .ok (.bipush 7, 2) := by decide +kernel
theorem dL_texts_217 : decode cL_texts 217 = .ok (.invokevirtual 9, 3) := by decide +kernel
theorem dL_texts_220 : decode cL_texts 220 = .ok (.istore 12, 2) := by decide +kernel
theorem dL_texts_222 : decode cL_texts 222 = .ok (.iload 5, 2) := by decide +kernel
theorem dL_texts_224 : decode cL_texts 224 = .ok (.ifCond .eq 88, 3) := by decide +kernel
theorem dL_texts_227 : decode cL_texts 227 = .ok (.iload 9, 2) := by decide +kernel
theorem dL_texts_229 : decode cL_texts 229 = .ok (.iconst 2, 1) := by decide +kernel
theorem dL_texts_230 : decode cL_texts 230 = .ok (.if_icmp .ne 36, 3) := by decide +kernel
theorem dL_texts_233 : decode cL_texts 233 = .ok (.aload_n 0, 1) := by decide +kernel
theorem dL_texts_234 : decode cL_texts 234 = .ok (.iconst 0, 1) := by decide +kernel
theorem dL_texts_235 : decode cL_texts 235 = .ok (.invokevirtual 9, 3) := by decide +kernel
theorem dL_texts_238 : decode cL_texts 238 = .ok (.iload 7, 2) := by decide +kernel
theorem dL_texts_240 : decode cL_texts 240 = .ok (.iload 4, 2) := by decide +kernel
theorem dL_texts_242 : decode cL_texts 242 = .ok (.iadd, 1) := by decide +kernel
theorem dL_texts_243 : decode cL_texts 243 = .ok (.if_icmp .ne 69, 3) := by decide +kernel
theorem dL_texts_246 : decode cL_texts 246 = .ok (.aload_n 0, 1) := by decide +kernel
theorem dL_texts_247 : decode cL_texts 247 = .ok (.iconst 3, 1) := by decide +kernel
theorem dL_texts_248 : decode cL_texts 248 = .ok (.invokevirtual 9, 3) := by decide +kernel
theorem dL_texts_251 : decode cL_texts 251 = .ok (.iload 8, 2) := by decide +kernel
theorem dL_texts_253 : decode cL_texts 253 = .ok (.iconst 1, 1) := by decide +kernel
theorem dL_texts_254 : decode cL_texts 254 = .ok (.iadd, 1) := by decide +kernel
theorem dL_texts_255 : decode cL_texts 255 = .ok (.if_icmp .ne 57, 3) := by decide +kernel
theorem dL_texts_258 : decode cL_texts 258 = .ok (.iload 10, 2) := by decide +kernel
theorem dL_texts_260 : decode cL_texts 260 = .ok (.ifCond .ne 52, 3) := by decide +kernel
theorem dL_texts_263 : decode cL_texts 263 = .ok (.goto 28, 3) := by decide +kernel
theorem dL_texts_266 : decode cL_texts 266 = .ok (.iload 9, 2) := by decide +kernel
theorem dL_texts_268 : decode cL_texts 268 = .ok (.ifCond .ne 44, 3) := by decide +kernel
theorem dL_texts_271 : decode cL_texts 271 = .ok (.aload_n 0, 1) := by decide +kernel
theorem dL_texts_272 : decode cL_texts 272 = .ok (.iconst 0, 1) := by decide +kernel
theorem dL_texts_273 : decode cL_texts 273 = .ok (.invokevirtual 9, 3) := by decide +kernel
theorem dL_texts_276 : decode cL_texts 276 = .ok (.iload 7, 2) := by decide +kernel
theorem dL_texts_278 : decode cL_texts 278 = .ok (.if_icmp .ne 34, 3) := by decide +kernel
theorem dL_texts_281 : decode cL_texts 281 = .ok (.aload_n 0, 1) := by decide +kernel
theorem dL_texts_282 : decode cL_texts 282 = .ok (.iconst 3, 1) := by decide +kernel
theorem dL_texts_283 : decode cL_texts 283 = .ok (.invokevirtual 9, 3) := by decide +kernel
theorem dL_texts_286 : decode cL_texts 286 = .ok (.iload 8, 2) := by decide +kernel
theorem dL_texts_288 : decode cL_texts 288 = .ok (.if_icmp .ne 24, 3) := by decide +kernel
theorem dL_texts_291 : decode cL_texts 291 = .ok (.aload_n 0, 1) := by decide +kernel
theorem dL_texts_292 : decode cL_texts 292 = .ok (.invokevirtual 69, 3) := by decide +kernel
theorem dL_texts_295 : decode cL_texts 295 = .ok (.ifCond .lt 17, 3) := by decide +kernel
theorem dL_texts_298 : decode cL_texts 298 = .ok (.aload_n 0, 1) := by decide +kernel
theorem dL_texts_299 : decode cL_texts 299 = .ok (.iconst 0, 1) := by decide +kernel
theorem dL_texts_300 : decode cL_texts 300 = .ok (.invokevirtual 9, 3) := by decide +kernel
theorem dL_texts_303 : decode cL_texts 303 = .ok (.iload 7, 2) := by decide +kernel
theorem dL_texts_305 : decode cL_texts 305 = .ok (.if_icmp .ne 7, 3) := by decide +kernel
theorem dL_texts_308 : decode cL_texts 308 = .ok (.iconst 1, 1) := by decide +kernel
theorem dL_texts_309 : decode cL_texts 309 = .ok (.goto 4, 3) := by decide +kernel
theorem dL_texts_312 : decode cL_texts 312 = .ok (.iconst 0, 1) := by decide +kernel
theorem dL_texts_313 : decode cL_texts 313 = .ok (.istore 5, 2) := by decide +kernel
theorem dL_texts_315 : decode cL_texts 315 = .ok (.aload_n 0, 1) := by decide +kernel
theorem dL_texts_316 : decode cL_texts 316 = .ok (.iload_n 1, 1) := by decide +kernel
theorem dL_texts_317 : decode cL_texts 317 = .ok (.iload_n 2, 1) := by decide +kernel
theorem dL_texts_318 : decode cL_texts 318 = .ok (.iload_n 3, 1) := by decide +kernel
theorem dL_texts_319 : decode cL_texts 319 = .ok (.invokevirtual 72, 3) := by decide +kernel
theorem dL_texts_322 : decode cL_texts 322 = .ok (.istore 13, 2) := by decide +kernel
theorem dL_texts_324 : decode cL_texts 324 = .ok (.iload 5, 2) := by decide +kernel
theorem dL_texts_326 : decode cL_texts 326 = .ok (.ifCond .eq 77, 3) := by decide +kernel
theorem dL_texts_329 : decode cL_texts 329 = .ok (.iload 9, 2) := by decide +kernel
theorem dL_texts_331 : decode cL_texts 331 = .ok (.iconst 2, 1) := by decide +kernel
theorem dL_texts_332 : decode cL_texts 332 = .ok (.if_icmp .ne 44, 3) := by decide +kernel
theorem dL_texts_335 : decode cL_texts 335 = .ok (.iload 13, 2) := by decide +kernel
theorem dL_texts_337 : decode cL_texts 337 = .ok (.iload 8, 2) := by decide +kernel
theorem dL_texts_339 : decode cL_texts 339 = .ok (.if_icmp .ne 64, 3) := by decide +kernel
theorem dL_texts_342 : decode cL_texts 342 = .ok (.aload_n 0, 1) := by decide +kernel
theorem dL_texts_343 : decode cL_texts 343 = .ok (.iload 4, 2) := by decide +kernel
theorem dL_texts_345 : decode cL_texts 345 = .ok (.invokevirtual 40, 3) := by decide +kernel
theorem dL_texts_348 : decode cL_texts 348 = .ok (.ifCond .lt 55, 3) := by decide +kernel
theorem dL_texts_351 : decode cL_texts 351 = .ok (.aload_n 0, 1) := by decide +kernel
theorem dL_texts_352 : decode cL_texts 352 = .ok (.bipush 13, 2) := by decide +kernel
theorem dL_texts_354 : decode cL_texts 354 = .ok (.invokevirtual 9, 3) := by decide +kernel
theorem dL_texts_357 : decode cL_texts 357 = .ok (.iload 11, 2) := by decide +kernel
theorem dL_texts_359 : decode cL_texts 359 = .ok (.if_icmp .ne 44, 3) := by decide +kernel
theorem dL_texts_362 : decode cL_texts 362 = .ok (.aload_n 0, 1) := by decide +kernel
theorem dL_texts_363 : decode cL_texts 363 = .ok (.bipush 7, 2) := by decide +kernel
theorem dL_texts_365 : decode cL_texts 365 = .ok (.invokevirtual 9, 3) := by decide +kernel
theorem dL_texts_368 : decode cL_texts 368 = .ok (.iload 12, 2) := by decide +kernel
theorem dL_texts_370 : decode cL_texts 370 = .ok (.if_icmp .ne 33, 3) := by decide +kernel
theorem dL_texts_373 : decode cL_texts 373 = .ok (.goto 26, 3) := by decide +kernel
theorem dL_texts_376 : decode cL_texts 376 = .ok (.iload 13, 2) := by decide +kernel
theorem dL_texts_378 : decode cL_texts 378 = .ok (.ifCond .ge 25, 3) := by decide +kernel
theorem dL_texts_381 : decode cL_texts 381 = .ok (.iload 13, 2) := by decide +kernel
theorem dL_texts_383 : decode cL_texts 383 = .ok (.bipush (-5), 2) := by decide +kernel
theorem dL_texts_385 : decode cL_texts 385 = .ok (.if_icmp .ne 14, 3) := by decide +kernel
theorem dL_texts_388 : decode cL_texts 388 = .ok (.aload_n 0, 1) := by decide +kernel
theorem dL_texts_389 : decode cL_texts 389 = .ok (.bipush 16, 2) := by decide +kernel
theorem dL_texts_391 : decode cL_texts 391 = .ok (.invokevirtual 9, 3) := by decide +kernel
theorem dL_texts_394 : decode cL_texts 394 = .ok (.iload 10, 2) := by decide +kernel
theorem dL_texts_396 : decode cL_texts 396 = .ok (.if_icmp .ne 7, 3) := by decide +kernel
theorem dL_texts_399 : decode cL_texts 399 = .ok (.iconst 1, 1) := by decide +kernel
theorem dL_texts_400 : decode cL_texts 400 = .ok (.goto 4, 3) := by decide +kernel
theorem dL_texts_403 : decode cL_texts 403 = .ok (.iconst 0, 1) := by decide +kernel
theorem dL_texts_404 : decode cL_texts 404 = .ok (.ireturn, 1) := by decide +kernel
theorem dL_refuses_0 : decode cL_refuses 0 = .ok (.aload_n 0, 1) := by decide +kernel
theorem dL_refuses_1 : decode cL_refuses 1 = .ok (.invokevirtual 76, 3) := by decide +kernel
theorem dL_refuses_4 : decode cL_refuses 4 = .ok (.lstore_n 1, 1) := by decide +kernel
theorem dL_refuses_5 : decode cL_refuses 5 = .ok (.aload_n 0, 1) := by decide +kernel
theorem dL_refuses_6 : decode cL_refuses 6 = .ok (.iconst 1, 1) := by decide +kernel
theorem dL_refuses_7 : decode cL_refuses 7 = .ok (.invokevirtual 9, 3) := by decide +kernel
theorem dL_refuses_10 : decode cL_refuses 10 = .ok (.istore_n 3, 1) := by decide +kernel
theorem dL_refuses_11 : decode cL_refuses 11 = .ok (.aload_n 0, 1) := by decide +kernel
theorem dL_refuses_12 : decode cL_refuses 12 = .ok (.iconst 3, 1) := by decide +kernel
theorem dL_refuses_13 : decode cL_refuses 13 = .ok (.invokevirtual 9, 3) := by decide +kernel
theorem dL_refuses_16 : decode cL_refuses 16 = .ok (.istore 4, 2) := by decide +kernel
theorem dL_refuses_18 : decode cL_refuses 18 = .ok (.aload_n 0, 1) := by decide +kernel
theorem dL_refuses_19 : decode cL_refuses 19 = .ok (.iconst 3, 1) := by decide +kernel
theorem dL_refuses_20 : decode cL_refuses 20 = .ok (.invokevirtual 80, 3) := by decide +kernel
theorem dL_refuses_23 : decode cL_refuses 23 = .ok (.bipush (-2), 2) := by decide +kernel
theorem dL_refuses_25 : decode cL_refuses 25 = .ok (.if_icmp .ne 110, 3) := by decide +kernel
theorem dL_refuses_28 : decode cL_refuses 28 = .ok (.aload_n 0, 1) := by decide +kernel
theorem dL_refuses_29 : decode cL_refuses 29 = .ok (.bipush 17, 2) := by decide +kernel
theorem dL_refuses_31 : decode cL_refuses 31 = .ok (.invokevirtual 80, 3) := by decide +kernel
theorem dL_refuses_34 : decode cL_refuses 34 = .ok (.bipush (-2), 2) := by decide +kernel
theorem dL_refuses_36 : decode cL_refuses 36 = .ok (.if_icmp .ne 99, 3) := by decide +kernel
theorem dL_refuses_39 : decode cL_refuses 39 = .ok (.aload_n 0, 1) := by decide +kernel
theorem dL_refuses_40 : decode cL_refuses 40 = .ok (.iconst 1, 1) := by decide +kernel
theorem dL_refuses_41 : decode cL_refuses 41 = .ok (.invokevirtual 83, 3) := by decide +kernel
theorem dL_refuses_44 : decode cL_refuses 44 = .ok (.bipush (-2), 2) := by decide +kernel
theorem dL_refuses_46 : decode cL_refuses 46 = .ok (.if_icmp .ne 89, 3) := by decide +kernel
theorem dL_refuses_49 : decode cL_refuses 49 = .ok (.aload_n 0, 1) := by decide +kernel
theorem dL_refuses_50 : decode cL_refuses 50 = .ok (.bipush 9, 2) := by decide +kernel
theorem dL_refuses_52 : decode cL_refuses 52 = .ok (.invokevirtual 83, 3) := by decide +kernel
theorem dL_refuses_55 : decode cL_refuses 55 = .ok (.bipush (-2), 2) := by decide +kernel
theorem dL_refuses_57 : decode cL_refuses 57 = .ok (.if_icmp .ne 78, 3) := by decide +kernel
theorem dL_refuses_60 : decode cL_refuses 60 = .ok (.aload_n 0, 1) := by decide +kernel
theorem dL_refuses_61 : decode cL_refuses 61 = .ok (.iconst 0, 1) := by decide +kernel
theorem dL_refuses_62 : decode cL_refuses 62 = .ok (.invokevirtual 86, 3) := by decide +kernel
theorem dL_refuses_65 : decode cL_refuses 65 = .ok (.bipush (-2), 2) := by decide +kernel
theorem dL_refuses_67 : decode cL_refuses 67 = .ok (.if_icmp .ne 68, 3) := by decide +kernel
theorem dL_refuses_70 : decode cL_refuses 70 = .ok (.aload_n 0, 1) := by decide +kernel
theorem dL_refuses_71 : decode cL_refuses 71 = .ok (.bipush 17, 2) := by decide +kernel
theorem dL_refuses_73 : decode cL_refuses 73 = .ok (.invokevirtual 86, 3) := by decide +kernel
theorem dL_refuses_76 : decode cL_refuses 76 = .ok (.bipush (-2), 2) := by decide +kernel
theorem dL_refuses_78 : decode cL_refuses 78 = .ok (.if_icmp .ne 57, 3) := by decide +kernel
theorem dL_refuses_81 : decode cL_refuses 81 = .ok (.aload_n 0, 1) := by decide +kernel
theorem dL_refuses_82 : decode cL_refuses 82 = .ok (.iconst 3, 1) := by decide +kernel
theorem dL_refuses_83 : decode cL_refuses 83 = .ok (.bipush 100, 2) := by decide +kernel
theorem dL_refuses_85 : decode cL_refuses 85 = .ok (.iconst 0, 1) := by decide +kernel
theorem dL_refuses_86 : decode cL_refuses 86 = .ok (.invokevirtual 72, 3) := by decide +kernel
theorem dL_refuses_89 : decode cL_refuses 89 = .ok (.iconst (-1), 1) := by decide +kernel
theorem dL_refuses_90 : decode cL_refuses 90 = .ok (.if_icmp .ne 45, 3) := by decide +kernel
theorem dL_refuses_93 : decode cL_refuses 93 = .ok (.aload_n 0, 1) := by decide +kernel
theorem dL_refuses_94 : decode cL_refuses 94 = .ok (.iconst 0, 1) := by decide +kernel
theorem dL_refuses_95 : decode cL_refuses 95 = .ok (.bipush 100, 2) := by decide +kernel
theorem dL_refuses_97 : decode cL_refuses 97 = .ok (.iload_n 3, 1) := by decide +kernel
theorem dL_refuses_98 : decode cL_refuses 98 = .ok (.invokevirtual 72, 3) := by decide +kernel
theorem dL_refuses_101 : decode cL_refuses 101 = .ok (.iconst (-1), 1) := by decide +kernel
theorem dL_refuses_102 : decode cL_refuses 102 = .ok (.if_icmp .ne 33, 3) := by decide +kernel
theorem dL_refuses_105 : decode cL_refuses 105 = .ok (.aload_n 0, 1) := by decide +kernel
theorem dL_refuses_106 : decode cL_refuses 106 = .ok (.iconst 0, 1) := by decide +kernel
theorem dL_refuses_107 : decode cL_refuses 107 = .ok (.iconst 0, 1) := by decide +kernel
theorem dL_refuses_108 : decode cL_refuses 108 = .ok (.iconst 0, 1) := by decide +kernel
theorem dL_refuses_109 : decode cL_refuses 109 = .ok (.invokevirtual 72, 3) := by decide +kernel
theorem dL_refuses_112 : decode cL_refuses 112 = .ok (.bipush (-2), 2) := by decide +kernel
theorem dL_refuses_114 : decode cL_refuses 114 = .ok (.if_icmp .ne 21, 3) := by decide +kernel
theorem dL_refuses_117 : decode cL_refuses 117 = .ok (.aload_n 0, 1) := by decide +kernel
theorem dL_refuses_118 : decode cL_refuses 118 = .ok (.iconst 0, 1) := by decide +kernel
theorem dL_refuses_119 : decode cL_refuses 119 = .ok (.sipush 10000, 3) := by decide +kernel
theorem dL_refuses_122 : decode cL_refuses 122 = .ok (.iconst 0, 1) := by decide +kernel
theorem dL_refuses_123 : decode cL_refuses 123 = .ok (.invokevirtual 72, 3) := by decide +kernel
theorem dL_refuses_126 : decode cL_refuses 126 = .ok (.bipush (-2), 2) := by decide +kernel
theorem dL_refuses_128 : decode cL_refuses 128 = .ok (.if_icmp .ne 7, 3) := by decide +kernel
theorem dL_refuses_131 : decode cL_refuses 131 = .ok (.iconst 1, 1) := by decide +kernel
theorem dL_refuses_132 : decode cL_refuses 132 = .ok (.goto 4, 3) := by decide +kernel
theorem dL_refuses_135 : decode cL_refuses 135 = .ok (.iconst 0, 1) := by decide +kernel
theorem dL_refuses_136 : decode cL_refuses 136 = .ok (.istore 5, 2) := by decide +kernel
theorem dL_refuses_138 : decode cL_refuses 138 = .ok (.iload 5, 2) := by decide +kernel
theorem dL_refuses_140 : decode cL_refuses 140 = .ok (.ifCond .eq 107, 3) := by decide +kernel
theorem dL_refuses_143 : decode cL_refuses 143 = .ok (.aload_n 0, 1) := by decide +kernel
theorem dL_refuses_144 : decode cL_refuses 144 = .ok (.iload 4, 2) := by decide +kernel
theorem dL_refuses_146 : decode cL_refuses 146 = .ok (.invokevirtual 89, 3) := by decide +kernel
theorem dL_refuses_149 : decode cL_refuses 149 = .ok (.iconst (-1), 1) := by decide +kernel
theorem dL_refuses_150 : decode cL_refuses 150 = .ok (.if_icmp .ne 97, 3) := by decide +kernel
theorem dL_refuses_153 : decode cL_refuses 153 = .ok (.aload_n 0, 1) := by decide +kernel
theorem dL_refuses_154 : decode cL_refuses 154 = .ok (.iconst 0, 1) := by decide +kernel
theorem dL_refuses_155 : decode cL_refuses 155 = .ok (.invokevirtual 40, 3) := by decide +kernel
theorem dL_refuses_158 : decode cL_refuses 158 = .ok (.bipush (-2), 2) := by decide +kernel
theorem dL_refuses_160 : decode cL_refuses 160 = .ok (.if_icmp .ne 87, 3) := by decide +kernel
theorem dL_refuses_163 : decode cL_refuses 163 = .ok (.aload_n 0, 1) := by decide +kernel
theorem dL_refuses_164 : decode cL_refuses 164 = .ok (.bipush 100, 2) := by decide +kernel
theorem dL_refuses_166 : decode cL_refuses 166 = .ok (.invokevirtual 40, 3) := by decide +kernel
theorem dL_refuses_169 : decode cL_refuses 169 = .ok (.bipush (-2), 2) := by decide +kernel
theorem dL_refuses_171 : decode cL_refuses 171 = .ok (.if_icmp .ne 76, 3) := by decide +kernel
theorem dL_refuses_174 : decode cL_refuses 174 = .ok (.aload_n 0, 1) := by decide +kernel
theorem dL_refuses_175 : decode cL_refuses 175 = .ok (.iload 4, 2) := by decide +kernel
theorem dL_refuses_177 : decode cL_refuses 177 = .ok (.invokevirtual 22, 3) := by decide +kernel
theorem dL_refuses_180 : decode cL_refuses 180 = .ok (.iconst (-1), 1) := by decide +kernel
theorem dL_refuses_181 : decode cL_refuses 181 = .ok (.if_icmp .ne 66, 3) := by decide +kernel
theorem dL_refuses_184 : decode cL_refuses 184 = .ok (.aload_n 0, 1) := by decide +kernel
theorem dL_refuses_185 : decode cL_refuses 185 = .ok (.iconst (-1), 1) := by decide +kernel
theorem dL_refuses_186 : decode cL_refuses 186 = .ok (.invokevirtual 28, 3) := by decide +kernel
theorem dL_refuses_189 : decode cL_refuses 189 = .ok (.iconst (-1), 1) := by decide +kernel
theorem dL_refuses_190 : decode cL_refuses 190 = .ok (.if_icmp .ne 57, 3) := by decide +kernel
theorem dL_refuses_193 : decode cL_refuses 193 = .ok (.aload_n 0, 1) := by decide +kernel
theorem dL_refuses_194 : decode cL_refuses 194 = .ok (.iload 4, 2) := by decide +kernel
theorem dL_refuses_196 : decode cL_refuses 196 = .ok (.invokevirtual 31, 3) := by decide +kernel
theorem dL_refuses_199 : decode cL_refuses 199 = .ok (.iconst (-1), 1) := by decide +kernel
theorem dL_refuses_200 : decode cL_refuses 200 = .ok (.if_icmp .ne 47, 3) := by decide +kernel
theorem dL_refuses_203 : decode cL_refuses 203 = .ok (.aload_n 0, 1) := by decide +kernel
theorem dL_refuses_204 : decode cL_refuses 204 = .ok (.iload 4, 2) := by decide +kernel
theorem dL_refuses_206 : decode cL_refuses 206 = .ok (.invokevirtual 25, 3) := by decide +kernel
theorem dL_refuses_209 : decode cL_refuses 209 = .ok (.iconst (-1), 1) := by decide +kernel
theorem dL_refuses_210 : decode cL_refuses 210 = .ok (.if_icmp .ne 37, 3) := by decide +kernel
theorem dL_refuses_213 : decode cL_refuses 213 = .ok (.aload_n 0, 1) := by decide +kernel
theorem dL_refuses_214 : decode cL_refuses 214 = .ok (.iconst (-1), 1) := by decide +kernel
theorem dL_refuses_215 : decode cL_refuses 215 = .ok (.iconst 5, 1) := by decide +kernel
theorem dL_refuses_216 : decode cL_refuses 216 = .ok (.invokevirtual 92, 3) := by decide +kernel
theorem dL_refuses_219 : decode cL_refuses 219 = .ok (.iconst (-1), 1) := by decide +kernel
theorem dL_refuses_220 : decode cL_refuses 220 = .ok (.if_icmp .ne 27, 3) := by decide +kernel
theorem dL_refuses_223 : decode cL_refuses 223 = .ok (.aload_n 0, 1) := by decide +kernel
theorem dL_refuses_224 : decode cL_refuses 224 = .ok (.iconst 0, 1) := by decide +kernel
theorem dL_refuses_225 : decode cL_refuses 225 = .ok (.iconst 0, 1) := by decide +kernel
theorem dL_refuses_226 : decode cL_refuses 226 = .ok (.invokevirtual 92, 3) := by decide +kernel
theorem dL_refuses_229 : decode cL_refuses 229 = .ok (.bipush (-2), 2) := by decide +kernel
theorem dL_refuses_231 : decode cL_refuses 231 = .ok (.if_icmp .ne 16, 3) := by decide +kernel
theorem dL_refuses_234 : decode cL_refuses 234 = .ok (.aload_n 0, 1) := by decide +kernel
theorem dL_refuses_235 : decode cL_refuses 235 = .ok (.iconst (-1), 1) := by decide +kernel
theorem dL_refuses_236 : decode cL_refuses 236 = .ok (.invokevirtual 34, 3) := by decide +kernel
theorem dL_refuses_239 : decode cL_refuses 239 = .ok (.iconst (-1), 1) := by decide +kernel
theorem dL_refuses_240 : decode cL_refuses 240 = .ok (.if_icmp .ne 7, 3) := by decide +kernel
theorem dL_refuses_243 : decode cL_refuses 243 = .ok (.iconst 1, 1) := by decide +kernel
theorem dL_refuses_244 : decode cL_refuses 244 = .ok (.goto 4, 3) := by decide +kernel
theorem dL_refuses_247 : decode cL_refuses 247 = .ok (.iconst 0, 1) := by decide +kernel
theorem dL_refuses_248 : decode cL_refuses 248 = .ok (.istore 5, 2) := by decide +kernel
theorem dL_refuses_250 : decode cL_refuses 250 = .ok (.iload 5, 2) := by decide +kernel
theorem dL_refuses_252 : decode cL_refuses 252 = .ok (.ifCond .eq 44, 3) := by decide +kernel
theorem dL_refuses_255 : decode cL_refuses 255 = .ok (.aload_n 0, 1) := by decide +kernel
theorem dL_refuses_256 : decode cL_refuses 256 = .ok (.bipush 18, 2) := by decide +kernel
theorem dL_refuses_258 : decode cL_refuses 258 = .ok (.invokevirtual 9, 3) := by decide +kernel
theorem dL_refuses_261 : decode cL_refuses 261 = .ok (.iconst (-1), 1) := by decide +kernel
theorem dL_refuses_262 : decode cL_refuses 262 = .ok (.if_icmp .ne 34, 3) := by decide +kernel
theorem dL_refuses_265 : decode cL_refuses 265 = .ok (.aload_n 0, 1) := by decide +kernel
theorem dL_refuses_266 : decode cL_refuses 266 = .ok (.iconst 2, 1) := by decide +kernel
theorem dL_refuses_267 : decode cL_refuses 267 = .ok (.invokevirtual 37, 3) := by decide +kernel
theorem dL_refuses_270 : decode cL_refuses 270 = .ok (.iconst (-1), 1) := by decide +kernel
theorem dL_refuses_271 : decode cL_refuses 271 = .ok (.if_icmp .ne 25, 3) := by decide +kernel
theorem dL_refuses_274 : decode cL_refuses 274 = .ok (.aload_n 0, 1) := by decide +kernel
theorem dL_refuses_275 : decode cL_refuses 275 = .ok (.iconst (-1), 1) := by decide +kernel
theorem dL_refuses_276 : decode cL_refuses 276 = .ok (.invokevirtual 43, 3) := by decide +kernel
theorem dL_refuses_279 : decode cL_refuses 279 = .ok (.iconst (-1), 1) := by decide +kernel
theorem dL_refuses_280 : decode cL_refuses 280 = .ok (.if_icmp .ne 16, 3) := by decide +kernel
theorem dL_refuses_283 : decode cL_refuses 283 = .ok (.aload_n 0, 1) := by decide +kernel
theorem dL_refuses_284 : decode cL_refuses 284 = .ok (.invokevirtual 76, 3) := by decide +kernel
theorem dL_refuses_287 : decode cL_refuses 287 = .ok (.lload_n 1, 1) := by decide +kernel
theorem dL_refuses_288 : decode cL_refuses 288 = .ok (.lcmp, 1) := by decide +kernel
theorem dL_refuses_289 : decode cL_refuses 289 = .ok (.ifCond .ne 7, 3) := by decide +kernel
theorem dL_refuses_292 : decode cL_refuses 292 = .ok (.iconst 1, 1) := by decide +kernel
theorem dL_refuses_293 : decode cL_refuses 293 = .ok (.goto 4, 3) := by decide +kernel
theorem dL_refuses_296 : decode cL_refuses 296 = .ok (.iconst 0, 1) := by decide +kernel
theorem dL_refuses_297 : decode cL_refuses 297 = .ok (.ireturn, 1) := by decide +kernel
theorem dL_law_0 : decode cL_law 0 = .ok (.new 10, 3) := by decide +kernel
theorem dL_law_3 : decode cL_law 3 = .ok (.dup, 1) := by decide +kernel
theorem dL_law_4 : decode cL_law 4 = .ok (.invokespecial 95, 3) := by decide +kernel
theorem dL_law_7 : decode cL_law 7 = .ok (.astore_n 1, 1) := by decide +kernel
theorem dL_law_8 : decode cL_law 8 = .ok (.aload_n 0, 1) := by decide +kernel
theorem dL_law_9 : decode cL_law 9 = .ok (.iconst 0, 1) := by decide +kernel
theorem dL_law_10 : decode cL_law 10 = .ok (.invokestatic 96, 3) := by decide +kernel
theorem dL_law_13 : decode cL_law 13 = .ok (.istore_n 2, 1) := by decide +kernel
theorem dL_law_14 : decode cL_law 14 = .ok (.iconst 4, 1) := by decide +kernel
theorem dL_law_15 : decode cL_law 15 = .ok (.iload_n 2, 1) := by decide +kernel
theorem dL_law_16 : decode cL_law 16 = .ok (.bipush 13, 2) := by decide +kernel
theorem dL_law_18 : decode cL_law 18 = .ok (.irem, 1) := by decide +kernel
theorem dL_law_19 : decode cL_law 19 = .ok (.iadd, 1) := by decide +kernel
theorem dL_law_20 : decode cL_law 20 = .ok (.istore_n 3, 1) := by decide +kernel
theorem dL_law_21 : decode cL_law 21 = .ok (.aload_n 1, 1) := by decide +kernel
theorem dL_law_22 : decode cL_law 22 = .ok (.invokevirtual 69, 3) := by decide +kernel
theorem dL_law_25 : decode cL_law 25 = .ok (.bipush (-3), 2) := by decide +kernel
theorem dL_law_27 : decode cL_law 27 = .ok (.if_icmp .ne 92, 3) := by decide +kernel
theorem dL_law_30 : decode cL_law 30 = .ok (.aload_n 1, 1) := by decide +kernel
theorem dL_law_31 : decode cL_law 31 = .ok (.iconst 1, 1) := by decide +kernel
theorem dL_law_32 : decode cL_law 32 = .ok (.invokevirtual 43, 3) := by decide +kernel
theorem dL_law_35 : decode cL_law 35 = .ok (.bipush (-3), 2) := by decide +kernel
theorem dL_law_37 : decode cL_law 37 = .ok (.if_icmp .ne 82, 3) := by decide +kernel
theorem dL_law_40 : decode cL_law 40 = .ok (.aload_n 1, 1) := by decide +kernel
theorem dL_law_41 : decode cL_law 41 = .ok (.iload_n 3, 1) := by decide +kernel
theorem dL_law_42 : decode cL_law 42 = .ok (.invokevirtual 80, 3) := by decide +kernel
theorem dL_law_45 : decode cL_law 45 = .ok (.bipush 10, 2) := by decide +kernel
theorem dL_law_47 : decode cL_law 47 = .ok (.if_icmp .ne 72, 3) := by decide +kernel
theorem dL_law_50 : decode cL_law 50 = .ok (.aload_n 1, 1) := by decide +kernel
theorem dL_law_51 : decode cL_law 51 = .ok (.iconst 2, 1) := by decide +kernel
theorem dL_law_52 : decode cL_law 52 = .ok (.iload_n 2, 1) := by decide +kernel
theorem dL_law_53 : decode cL_law 53 = .ok (.bipush 16, 2) := by decide +kernel
theorem dL_law_55 : decode cL_law 55 = .ok (.idiv, 1) := by decide +kernel
theorem dL_law_56 : decode cL_law 56 = .ok (.bipush 7, 2) := by decide +kernel
theorem dL_law_58 : decode cL_law 58 = .ok (.irem, 1) := by decide +kernel
theorem dL_law_59 : decode cL_law 59 = .ok (.iadd, 1) := by decide +kernel
theorem dL_law_60 : decode cL_law 60 = .ok (.invokevirtual 83, 3) := by decide +kernel
theorem dL_law_63 : decode cL_law 63 = .ok (.iconst 4, 1) := by decide +kernel
theorem dL_law_64 : decode cL_law 64 = .ok (.if_icmp .ne 55, 3) := by decide +kernel
theorem dL_law_67 : decode cL_law 67 = .ok (.aload_n 1, 1) := by decide +kernel
theorem dL_law_68 : decode cL_law 68 = .ok (.iconst 4, 1) := by decide +kernel
theorem dL_law_69 : decode cL_law 69 = .ok (.iload_n 2, 1) := by decide +kernel
theorem dL_law_70 : decode cL_law 70 = .ok (.sipush 128, 3) := by decide +kernel
theorem dL_law_73 : decode cL_law 73 = .ok (.idiv, 1) := by decide +kernel
theorem dL_law_74 : decode cL_law 74 = .ok (.bipush 13, 2) := by decide +kernel
theorem dL_law_76 : decode cL_law 76 = .ok (.irem, 1) := by decide +kernel
theorem dL_law_77 : decode cL_law 77 = .ok (.iadd, 1) := by decide +kernel
theorem dL_law_78 : decode cL_law 78 = .ok (.invokevirtual 86, 3) := by decide +kernel
theorem dL_law_81 : decode cL_law 81 = .ok (.bipush 16, 2) := by decide +kernel
theorem dL_law_83 : decode cL_law 83 = .ok (.if_icmp .ne 36, 3) := by decide +kernel
theorem dL_law_86 : decode cL_law 86 = .ok (.aload_n 1, 1) := by decide +kernel
theorem dL_law_87 : decode cL_law 87 = .ok (.iconst 0, 1) := by decide +kernel
theorem dL_law_88 : decode cL_law 88 = .ok (.invokevirtual 34, 3) := by decide +kernel
theorem dL_law_91 : decode cL_law 91 = .ok (.bipush (-6), 2) := by decide +kernel
theorem dL_law_93 : decode cL_law 93 = .ok (.if_icmp .ne 26, 3) := by decide +kernel
theorem dL_law_96 : decode cL_law 96 = .ok (.aload_n 1, 1) := by decide +kernel
theorem dL_law_97 : decode cL_law 97 = .ok (.iconst 0, 1) := by decide +kernel
theorem dL_law_98 : decode cL_law 98 = .ok (.sipush 900, 3) := by decide +kernel
theorem dL_law_101 : decode cL_law 101 = .ok (.iconst 0, 1) := by decide +kernel
theorem dL_law_102 : decode cL_law 102 = .ok (.invokevirtual 72, 3) := by decide +kernel
theorem dL_law_105 : decode cL_law 105 = .ok (.ifCond .ne 14, 3) := by decide +kernel
theorem dL_law_108 : decode cL_law 108 = .ok (.aload_n 1, 1) := by decide +kernel
theorem dL_law_109 : decode cL_law 109 = .ok (.invokestatic 100, 3) := by decide +kernel
theorem dL_law_112 : decode cL_law 112 = .ok (.ifCond .eq 7, 3) := by decide +kernel
theorem dL_law_115 : decode cL_law 115 = .ok (.iconst 1, 1) := by decide +kernel
theorem dL_law_116 : decode cL_law 116 = .ok (.goto 4, 3) := by decide +kernel
theorem dL_law_119 : decode cL_law 119 = .ok (.iconst 0, 1) := by decide +kernel
theorem dL_law_120 : decode cL_law 120 = .ok (.istore 4, 2) := by decide +kernel
theorem dL_law_122 : decode cL_law 122 = .ok (.iconst 0, 1) := by decide +kernel
theorem dL_law_123 : decode cL_law 123 = .ok (.istore 5, 2) := by decide +kernel
theorem dL_law_125 : decode cL_law 125 = .ok (.iload 5, 2) := by decide +kernel
theorem dL_law_127 : decode cL_law 127 = .ok (.bipush 16, 2) := by decide +kernel
theorem dL_law_129 : decode cL_law 129 = .ok (.if_icmp .ge 387, 3) := by decide +kernel
theorem dL_law_132 : decode cL_law 132 = .ok (.iload 4, 2) := by decide +kernel
theorem dL_law_134 : decode cL_law 134 = .ok (.ifCond .eq 382, 3) := by decide +kernel
theorem dL_law_137 : decode cL_law 137 = .ok (.aload_n 0, 1) := by decide +kernel
theorem dL_law_138 : decode cL_law 138 = .ok (.iload 5, 2) := by decide +kernel
theorem dL_law_140 : decode cL_law 140 = .ok (.iconst 1, 1) := by decide +kernel
theorem dL_law_141 : decode cL_law 141 = .ok (.iadd, 1) := by decide +kernel
theorem dL_law_142 : decode cL_law 142 = .ok (.invokestatic 96, 3) := by decide +kernel
theorem dL_law_145 : decode cL_law 145 = .ok (.istore 6, 2) := by decide +kernel
theorem dL_law_147 : decode cL_law 147 = .ok (.iload 6, 2) := by decide +kernel
theorem dL_law_149 : decode cL_law 149 = .ok (.iconst 3, 1) := by decide +kernel
theorem dL_law_150 : decode cL_law 150 = .ok (.ishr, 1) := by decide +kernel
theorem dL_law_151 : decode cL_law 151 = .ok (.istore 7, 2) := by decide +kernel
theorem dL_law_153 : decode cL_law 153 = .ok (.iload 7, 2) := by decide +kernel
theorem dL_law_155 : decode cL_law 155 = .ok (.aload_n 1, 1) := by decide +kernel
theorem dL_law_156 : decode cL_law 156 = .ok (.iconst 3, 1) := by decide +kernel
theorem dL_law_157 : decode cL_law 157 = .ok (.invokevirtual 9, 3) := by decide +kernel
theorem dL_law_160 : decode cL_law 160 = .ok (.irem, 1) := by decide +kernel
theorem dL_law_161 : decode cL_law 161 = .ok (.istore 8, 2) := by decide +kernel
theorem dL_law_163 : decode cL_law 163 = .ok (.iload 6, 2) := by decide +kernel
theorem dL_law_165 : decode cL_law 165 = .ok (.bipush 7, 2) := by decide +kernel
theorem dL_law_167 : decode cL_law 167 = .ok (.iand, 1) := by decide +kernel
theorem dL_law_168 : decode cL_law 168 = .ok (.tableswitch 305 0 4 #[36, 86, 163, 204, 204], 36) := by decide +kernel
theorem dL_law_204 : decode cL_law 204 = .ok (.aload_n 1, 1) := by decide +kernel
theorem dL_law_205 : decode cL_law 205 = .ok (.iload 7, 2) := by decide +kernel
theorem dL_law_207 : decode cL_law 207 = .ok (.iconst 1, 1) := by decide +kernel
theorem dL_law_208 : decode cL_law 208 = .ok (.iand, 1) := by decide +kernel
theorem dL_law_209 : decode cL_law 209 = .ok (.iconst 1, 1) := by decide +kernel
theorem dL_law_210 : decode cL_law 210 = .ok (.if_icmp .ne 7, 3) := by decide +kernel
theorem dL_law_213 : decode cL_law 213 = .ok (.iconst 1, 1) := by decide +kernel
theorem dL_law_214 : decode cL_law 214 = .ok (.goto 4, 3) := by decide +kernel
theorem dL_law_217 : decode cL_law 217 = .ok (.iconst 0, 1) := by decide +kernel
theorem dL_law_218 : decode cL_law 218 = .ok (.invokevirtual 104, 3) := by decide +kernel
theorem dL_law_221 : decode cL_law 221 = .ok (.ifCond .lt 27, 3) := by decide +kernel
theorem dL_law_224 : decode cL_law 224 = .ok (.aload_n 1, 1) := by decide +kernel
theorem dL_law_225 : decode cL_law 225 = .ok (.iload 7, 2) := by decide +kernel
theorem dL_law_227 : decode cL_law 227 = .ok (.bipush 6, 2) := by decide +kernel
theorem dL_law_229 : decode cL_law 229 = .ok (.iand, 1) := by decide +kernel
theorem dL_law_230 : decode cL_law 230 = .ok (.ifCond .le 7, 3) := by decide +kernel
theorem dL_law_233 : decode cL_law 233 = .ok (.iconst 1, 1) := by decide +kernel
theorem dL_law_234 : decode cL_law 234 = .ok (.goto 4, 3) := by decide +kernel
theorem dL_law_237 : decode cL_law 237 = .ok (.iconst 0, 1) := by decide +kernel
theorem dL_law_238 : decode cL_law 238 = .ok (.invokevirtual 108, 3) := by decide +kernel
theorem dL_law_241 : decode cL_law 241 = .ok (.ifCond .lt 7, 3) := by decide +kernel
theorem dL_law_244 : decode cL_law 244 = .ok (.iconst 1, 1) := by decide +kernel
theorem dL_law_245 : decode cL_law 245 = .ok (.goto 4, 3) := by decide +kernel
theorem dL_law_248 : decode cL_law 248 = .ok (.iconst 0, 1) := by decide +kernel
theorem dL_law_249 : decode cL_law 249 = .ok (.istore 4, 2) := by decide +kernel
theorem dL_law_251 : decode cL_law 251 = .ok (.goto 240, 3) := by decide +kernel
theorem dL_law_254 : decode cL_law 254 = .ok (.aload_n 1, 1) := by decide +kernel
theorem dL_law_255 : decode cL_law 255 = .ok (.iload 8, 2) := by decide +kernel
theorem dL_law_257 : decode cL_law 257 = .ok (.iconst 3, 1) := by decide +kernel
theorem dL_law_258 : decode cL_law 258 = .ok (.invokevirtual 15, 3) := by decide +kernel
theorem dL_law_261 : decode cL_law 261 = .ok (.istore 9, 2) := by decide +kernel
theorem dL_law_263 : decode cL_law 263 = .ok (.aload_n 1, 1) := by decide +kernel
theorem dL_law_264 : decode cL_law 264 = .ok (.iload 8, 2) := by decide +kernel
theorem dL_law_266 : decode cL_law 266 = .ok (.invokevirtual 89, 3) := by decide +kernel
theorem dL_law_269 : decode cL_law 269 = .ok (.istore 10, 2) := by decide +kernel
theorem dL_law_271 : decode cL_law 271 = .ok (.iload 10, 2) := by decide +kernel
theorem dL_law_273 : decode cL_law 273 = .ok (.bipush (-3), 2) := by decide +kernel
theorem dL_law_275 : decode cL_law 275 = .ok (.if_icmp .ne 28, 3) := by decide +kernel
theorem dL_law_278 : decode cL_law 278 = .ok (.iload 9, 2) := by decide +kernel
theorem dL_law_280 : decode cL_law 280 = .ok (.iconst 1, 1) := by decide +kernel
theorem dL_law_281 : decode cL_law 281 = .ok (.if_icmp .lt 14, 3) := by decide +kernel
theorem dL_law_284 : decode cL_law 284 = .ok (.aload_n 1, 1) := by decide +kernel
theorem dL_law_285 : decode cL_law 285 = .ok (.iload 8, 2) := by decide +kernel
theorem dL_law_287 : decode cL_law 287 = .ok (.iconst 5, 1) := by decide +kernel
theorem dL_law_288 : decode cL_law 288 = .ok (.invokevirtual 15, 3) := by decide +kernel
theorem dL_law_291 : decode cL_law 291 = .ok (.iconst 1, 1) := by decide +kernel
theorem dL_law_292 : decode cL_law 292 = .ok (.if_icmp .ne 7, 3) := by decide +kernel
theorem dL_law_295 : decode cL_law 295 = .ok (.iconst 1, 1) := by decide +kernel
theorem dL_law_296 : decode cL_law 296 = .ok (.goto 30, 3) := by decide +kernel
theorem dL_law_299 : decode cL_law 299 = .ok (.iconst 0, 1) := by decide +kernel
theorem dL_law_300 : decode cL_law 300 = .ok (.goto 26, 3) := by decide +kernel
theorem dL_law_303 : decode cL_law 303 = .ok (.iload 10, 2) := by decide +kernel
theorem dL_law_305 : decode cL_law 305 = .ok (.iload 9, 2) := by decide +kernel
theorem dL_law_307 : decode cL_law 307 = .ok (.if_icmp .ne 18, 3) := by decide +kernel
theorem dL_law_310 : decode cL_law 310 = .ok (.aload_n 1, 1) := by decide +kernel
theorem dL_law_311 : decode cL_law 311 = .ok (.iload 8, 2) := by decide +kernel
theorem dL_law_313 : decode cL_law 313 = .ok (.iconst 5, 1) := by decide +kernel
theorem dL_law_314 : decode cL_law 314 = .ok (.invokevirtual 15, 3) := by decide +kernel
theorem dL_law_317 : decode cL_law 317 = .ok (.iconst 1, 1) := by decide +kernel
theorem dL_law_318 : decode cL_law 318 = .ok (.if_icmp .ne 7, 3) := by decide +kernel
theorem dL_law_321 : decode cL_law 321 = .ok (.iconst 1, 1) := by decide +kernel
theorem dL_law_322 : decode cL_law 322 = .ok (.goto 4, 3) := by decide +kernel
theorem dL_law_325 : decode cL_law 325 = .ok (.iconst 0, 1) := by decide +kernel
theorem dL_law_326 : decode cL_law 326 = .ok (.istore 4, 2) := by decide +kernel
theorem dL_law_328 : decode cL_law 328 = .ok (.goto 163, 3) := by decide +kernel
theorem dL_law_331 : decode cL_law 331 = .ok (.aload_n 1, 1) := by decide +kernel
theorem dL_law_332 : decode cL_law 332 = .ok (.iload 7, 2) := by decide +kernel
theorem dL_law_334 : decode cL_law 334 = .ok (.iconst 3, 1) := by decide +kernel
theorem dL_law_335 : decode cL_law 335 = .ok (.irem, 1) := by decide +kernel
theorem dL_law_336 : decode cL_law 336 = .ok (.iconst 1, 1) := by decide +kernel
theorem dL_law_337 : decode cL_law 337 = .ok (.iload 7, 2) := by decide +kernel
theorem dL_law_339 : decode cL_law 339 = .ok (.iconst 4, 1) := by decide +kernel
theorem dL_law_340 : decode cL_law 340 = .ok (.idiv, 1) := by decide +kernel
theorem dL_law_341 : decode cL_law 341 = .ok (.sipush 900, 3) := by decide +kernel
theorem dL_law_344 : decode cL_law 344 = .ok (.irem, 1) := by decide +kernel
theorem dL_law_345 : decode cL_law 345 = .ok (.iadd, 1) := by decide +kernel
theorem dL_law_346 : decode cL_law 346 = .ok (.iload 7, 2) := by decide +kernel
theorem dL_law_348 : decode cL_law 348 = .ok (.sipush 4096, 3) := by decide +kernel
theorem dL_law_351 : decode cL_law 351 = .ok (.idiv, 1) := by decide +kernel
theorem dL_law_352 : decode cL_law 352 = .ok (.iload_n 3, 1) := by decide +kernel
theorem dL_law_353 : decode cL_law 353 = .ok (.irem, 1) := by decide +kernel
theorem dL_law_354 : decode cL_law 354 = .ok (.iconst 1, 1) := by decide +kernel
theorem dL_law_355 : decode cL_law 355 = .ok (.iload 7, 2) := by decide +kernel
theorem dL_law_357 : decode cL_law 357 = .ok (.ldc 111, 2) := by decide +kernel
theorem dL_law_359 : decode cL_law 359 = .ok (.idiv, 1) := by decide +kernel
theorem dL_law_360 : decode cL_law 360 = .ok (.bipush 40, 2) := by decide +kernel
theorem dL_law_362 : decode cL_law 362 = .ok (.irem, 1) := by decide +kernel
theorem dL_law_363 : decode cL_law 363 = .ok (.iadd, 1) := by decide +kernel
theorem dL_law_364 : decode cL_law 364 = .ok (.invokestatic 112, 3) := by decide +kernel
theorem dL_law_367 : decode cL_law 367 = .ok (.istore 4, 2) := by decide +kernel
theorem dL_law_369 : decode cL_law 369 = .ok (.goto 122, 3) := by decide +kernel
theorem dL_law_372 : decode cL_law 372 = .ok (.aload_n 1, 1) := by decide +kernel
theorem dL_law_373 : decode cL_law 373 = .ok (.iload 7, 2) := by decide +kernel
theorem dL_law_375 : decode cL_law 375 = .ok (.iconst 3, 1) := by decide +kernel
theorem dL_law_376 : decode cL_law 376 = .ok (.irem, 1) := by decide +kernel
theorem dL_law_377 : decode cL_law 377 = .ok (.bipush 30, 2) := by decide +kernel
theorem dL_law_379 : decode cL_law 379 = .ok (.iload 7, 2) := by decide +kernel
theorem dL_law_381 : decode cL_law 381 = .ok (.iconst 4, 1) := by decide +kernel
theorem dL_law_382 : decode cL_law 382 = .ok (.idiv, 1) := by decide +kernel
theorem dL_law_383 : decode cL_law 383 = .ok (.sipush 1500, 3) := by decide +kernel
theorem dL_law_386 : decode cL_law 386 = .ok (.irem, 1) := by decide +kernel
theorem dL_law_387 : decode cL_law 387 = .ok (.iadd, 1) := by decide +kernel
theorem dL_law_388 : decode cL_law 388 = .ok (.invokevirtual 92, 3) := by decide +kernel
theorem dL_law_391 : decode cL_law 391 = .ok (.istore 11, 2) := by decide +kernel
theorem dL_law_393 : decode cL_law 393 = .ok (.iload 11, 2) := by decide +kernel
theorem dL_law_395 : decode cL_law 395 = .ok (.ifCond .lt 27, 3) := by decide +kernel
theorem dL_law_398 : decode cL_law 398 = .ok (.aload_n 1, 1) := by decide +kernel
theorem dL_law_399 : decode cL_law 399 = .ok (.iload 7, 2) := by decide +kernel
theorem dL_law_401 : decode cL_law 401 = .ok (.iconst 3, 1) := by decide +kernel
theorem dL_law_402 : decode cL_law 402 = .ok (.irem, 1) := by decide +kernel
theorem dL_law_403 : decode cL_law 403 = .ok (.bipush 30, 2) := by decide +kernel
theorem dL_law_405 : decode cL_law 405 = .ok (.iload 7, 2) := by decide +kernel
theorem dL_law_407 : decode cL_law 407 = .ok (.iconst 4, 1) := by decide +kernel
theorem dL_law_408 : decode cL_law 408 = .ok (.idiv, 1) := by decide +kernel
theorem dL_law_409 : decode cL_law 409 = .ok (.sipush 1500, 3) := by decide +kernel
theorem dL_law_412 : decode cL_law 412 = .ok (.irem, 1) := by decide +kernel
theorem dL_law_413 : decode cL_law 413 = .ok (.iadd, 1) := by decide +kernel
theorem dL_law_414 : decode cL_law 414 = .ok (.iload 11, 2) := by decide +kernel
theorem dL_law_416 : decode cL_law 416 = .ok (.invokevirtual 72, 3) := by decide +kernel
theorem dL_law_419 : decode cL_law 419 = .ok (.goto 5, 3) := by decide +kernel
theorem dL_law_422 : decode cL_law 422 = .ok (.bipush (-6), 2) := by decide +kernel
theorem dL_law_424 : decode cL_law 424 = .ok (.istore 12, 2) := by decide +kernel
theorem dL_law_426 : decode cL_law 426 = .ok (.iload 11, 2) := by decide +kernel
theorem dL_law_428 : decode cL_law 428 = .ok (.bipush (-6), 2) := by decide +kernel
theorem dL_law_430 : decode cL_law 430 = .ok (.if_icmp .eq 33, 3) := by decide +kernel
theorem dL_law_433 : decode cL_law 433 = .ok (.iload 11, 2) := by decide +kernel
theorem dL_law_435 : decode cL_law 435 = .ok (.bipush (-4), 2) := by decide +kernel
theorem dL_law_437 : decode cL_law 437 = .ok (.if_icmp .eq 26, 3) := by decide +kernel
theorem dL_law_440 : decode cL_law 440 = .ok (.iload 12, 2) := by decide +kernel
theorem dL_law_442 : decode cL_law 442 = .ok (.ifCond .lt 25, 3) := by decide +kernel
theorem dL_law_445 : decode cL_law 445 = .ok (.aload_n 1, 1) := by decide +kernel
theorem dL_law_446 : decode cL_law 446 = .ok (.iload 12, 2) := by decide +kernel
theorem dL_law_448 : decode cL_law 448 = .ok (.invokevirtual 28, 3) := by decide +kernel
theorem dL_law_451 : decode cL_law 451 = .ok (.ifCond .lt 16, 3) := by decide +kernel
theorem dL_law_454 : decode cL_law 454 = .ok (.aload_n 1, 1) := by decide +kernel
theorem dL_law_455 : decode cL_law 455 = .ok (.bipush 16, 2) := by decide +kernel
theorem dL_law_457 : decode cL_law 457 = .ok (.invokevirtual 9, 3) := by decide +kernel
theorem dL_law_460 : decode cL_law 460 = .ok (.ifCond .ne 7, 3) := by decide +kernel
theorem dL_law_463 : decode cL_law 463 = .ok (.iconst 1, 1) := by decide +kernel
theorem dL_law_464 : decode cL_law 464 = .ok (.goto 4, 3) := by decide +kernel
theorem dL_law_467 : decode cL_law 467 = .ok (.iconst 0, 1) := by decide +kernel
theorem dL_law_468 : decode cL_law 468 = .ok (.istore 4, 2) := by decide +kernel
theorem dL_law_470 : decode cL_law 470 = .ok (.goto 21, 3) := by decide +kernel
theorem dL_law_473 : decode cL_law 473 = .ok (.aload_n 1, 1) := by decide +kernel
theorem dL_law_474 : decode cL_law 474 = .ok (.iconst 1, 1) := by decide +kernel
theorem dL_law_475 : decode cL_law 475 = .ok (.iload 7, 2) := by decide +kernel
theorem dL_law_477 : decode cL_law 477 = .ok (.bipush 32, 2) := by decide +kernel
theorem dL_law_479 : decode cL_law 479 = .ok (.idiv, 1) := by decide +kernel
theorem dL_law_480 : decode cL_law 480 = .ok (.bipush 25, 2) := by decide +kernel
theorem dL_law_482 : decode cL_law 482 = .ok (.irem, 1) := by decide +kernel
theorem dL_law_483 : decode cL_law 483 = .ok (.iadd, 1) := by decide +kernel
theorem dL_law_484 : decode cL_law 484 = .ok (.iload 8, 2) := by decide +kernel
theorem dL_law_486 : decode cL_law 486 = .ok (.invokestatic 116, 3) := by decide +kernel
theorem dL_law_489 : decode cL_law 489 = .ok (.istore 4, 2) := by decide +kernel
theorem dL_law_491 : decode cL_law 491 = .ok (.iload 4, 2) := by decide +kernel
theorem dL_law_493 : decode cL_law 493 = .ok (.ifCond .eq 14, 3) := by decide +kernel
theorem dL_law_496 : decode cL_law 496 = .ok (.aload_n 1, 1) := by decide +kernel
theorem dL_law_497 : decode cL_law 497 = .ok (.invokestatic 100, 3) := by decide +kernel
theorem dL_law_500 : decode cL_law 500 = .ok (.ifCond .eq 7, 3) := by decide +kernel
theorem dL_law_503 : decode cL_law 503 = .ok (.iconst 1, 1) := by decide +kernel
theorem dL_law_504 : decode cL_law 504 = .ok (.goto 4, 3) := by decide +kernel
theorem dL_law_507 : decode cL_law 507 = .ok (.iconst 0, 1) := by decide +kernel
theorem dL_law_508 : decode cL_law 508 = .ok (.istore 4, 2) := by decide +kernel
theorem dL_law_510 : decode cL_law 510 = .ok (.iinc 5 1, 3) := by decide +kernel
theorem dL_law_513 : decode cL_law 513 = .ok (.goto (-388), 3) := by decide +kernel
theorem dL_law_516 : decode cL_law 516 = .ok (.iload 4, 2) := by decide +kernel
theorem dL_law_518 : decode cL_law 518 = .ok (.ifCond .eq 27, 3) := by decide +kernel
theorem dL_law_521 : decode cL_law 521 = .ok (.aload_n 1, 1) := by decide +kernel
theorem dL_law_522 : decode cL_law 522 = .ok (.invokestatic 120, 3) := by decide +kernel
theorem dL_law_525 : decode cL_law 525 = .ok (.ifCond .eq 20, 3) := by decide +kernel
theorem dL_law_528 : decode cL_law 528 = .ok (.aload_n 1, 1) := by decide +kernel
theorem dL_law_529 : decode cL_law 529 = .ok (.iconst 0, 1) := by decide +kernel
theorem dL_law_530 : decode cL_law 530 = .ok (.invokevirtual 37, 3) := by decide +kernel
theorem dL_law_533 : decode cL_law 533 = .ok (.aload_n 1, 1) := by decide +kernel
theorem dL_law_534 : decode cL_law 534 = .ok (.iconst 0, 1) := by decide +kernel
theorem dL_law_535 : decode cL_law 535 = .ok (.invokevirtual 9, 3) := by decide +kernel
theorem dL_law_538 : decode cL_law 538 = .ok (.if_icmp .ne 7, 3) := by decide +kernel
theorem dL_law_541 : decode cL_law 541 = .ok (.iconst 1, 1) := by decide +kernel
theorem dL_law_542 : decode cL_law 542 = .ok (.goto 4, 3) := by decide +kernel
theorem dL_law_545 : decode cL_law 545 = .ok (.iconst 0, 1) := by decide +kernel
theorem dL_law_546 : decode cL_law 546 = .ok (.istore 4, 2) := by decide +kernel
theorem dL_law_548 : decode cL_law 548 = .ok (.aload_n 1, 1) := by decide +kernel
theorem dL_law_549 : decode cL_law 549 = .ok (.iconst 0, 1) := by decide +kernel
theorem dL_law_550 : decode cL_law 550 = .ok (.invokevirtual 9, 3) := by decide +kernel
theorem dL_law_553 : decode cL_law 553 = .ok (.istore 5, 2) := by decide +kernel
theorem dL_law_555 : decode cL_law 555 = .ok (.aload_n 1, 1) := by decide +kernel
theorem dL_law_556 : decode cL_law 556 = .ok (.bipush 13, 2) := by decide +kernel
theorem dL_law_558 : decode cL_law 558 = .ok (.invokevirtual 9, 3) := by decide +kernel
theorem dL_law_561 : decode cL_law 561 = .ok (.istore 6, 2) := by decide +kernel
theorem dL_law_563 : decode cL_law 563 = .ok (.iload 4, 2) := by decide +kernel
theorem dL_law_565 : decode cL_law 565 = .ok (.ifCond .eq 71, 3) := by decide +kernel
theorem dL_law_568 : decode cL_law 568 = .ok (.aload_n 1, 1) := by decide +kernel
theorem dL_law_569 : decode cL_law 569 = .ok (.bipush 7, 2) := by decide +kernel
theorem dL_law_571 : decode cL_law 571 = .ok (.invokevirtual 40, 3) := by decide +kernel
theorem dL_law_574 : decode cL_law 574 = .ok (.ifCond .lt 62, 3) := by decide +kernel
theorem dL_law_577 : decode cL_law 577 = .ok (.aload_n 1, 1) := by decide +kernel
theorem dL_law_578 : decode cL_law 578 = .ok (.iconst 5, 1) := by decide +kernel
theorem dL_law_579 : decode cL_law 579 = .ok (.invokevirtual 80, 3) := by decide +kernel
theorem dL_law_582 : decode cL_law 582 = .ok (.iload_n 3, 1) := by decide +kernel
theorem dL_law_583 : decode cL_law 583 = .ok (.if_icmp .ne 53, 3) := by decide +kernel
theorem dL_law_586 : decode cL_law 586 = .ok (.aload_n 1, 1) := by decide +kernel
theorem dL_law_587 : decode cL_law 587 = .ok (.iconst 3, 1) := by decide +kernel
theorem dL_law_588 : decode cL_law 588 = .ok (.invokevirtual 9, 3) := by decide +kernel
theorem dL_law_591 : decode cL_law 591 = .ok (.ifCond .ne 45, 3) := by decide +kernel
theorem dL_law_594 : decode cL_law 594 = .ok (.aload_n 1, 1) := by decide +kernel
theorem dL_law_595 : decode cL_law 595 = .ok (.bipush 12, 2) := by decide +kernel
theorem dL_law_597 : decode cL_law 597 = .ok (.invokevirtual 9, 3) := by decide +kernel
theorem dL_law_600 : decode cL_law 600 = .ok (.ifCond .ne 36, 3) := by decide +kernel
theorem dL_law_603 : decode cL_law 603 = .ok (.aload_n 1, 1) := by decide +kernel
theorem dL_law_604 : decode cL_law 604 = .ok (.invokevirtual 69, 3) := by decide +kernel
theorem dL_law_607 : decode cL_law 607 = .ok (.ifCond .lt 29, 3) := by decide +kernel
theorem dL_law_610 : decode cL_law 610 = .ok (.aload_n 1, 1) := by decide +kernel
theorem dL_law_611 : decode cL_law 611 = .ok (.iconst 0, 1) := by decide +kernel
theorem dL_law_612 : decode cL_law 612 = .ok (.invokevirtual 9, 3) := by decide +kernel
theorem dL_law_615 : decode cL_law 615 = .ok (.iload 5, 2) := by decide +kernel
theorem dL_law_617 : decode cL_law 617 = .ok (.bipush 7, 2) := by decide +kernel
theorem dL_law_619 : decode cL_law 619 = .ok (.iadd, 1) := by decide +kernel
theorem dL_law_620 : decode cL_law 620 = .ok (.if_icmp .ne 16, 3) := by decide +kernel
theorem dL_law_623 : decode cL_law 623 = .ok (.aload_n 1, 1) := by decide +kernel
theorem dL_law_624 : decode cL_law 624 = .ok (.iconst 1, 1) := by decide +kernel
theorem dL_law_625 : decode cL_law 625 = .ok (.invokevirtual 9, 3) := by decide +kernel
theorem dL_law_628 : decode cL_law 628 = .ok (.iload_n 3, 1) := by decide +kernel
theorem dL_law_629 : decode cL_law 629 = .ok (.if_icmp .ne 7, 3) := by decide +kernel
theorem dL_law_632 : decode cL_law 632 = .ok (.iconst 1, 1) := by decide +kernel
theorem dL_law_633 : decode cL_law 633 = .ok (.goto 4, 3) := by decide +kernel
theorem dL_law_636 : decode cL_law 636 = .ok (.iconst 0, 1) := by decide +kernel
theorem dL_law_637 : decode cL_law 637 = .ok (.istore 4, 2) := by decide +kernel
theorem dL_law_639 : decode cL_law 639 = .ok (.iload 4, 2) := by decide +kernel
theorem dL_law_641 : decode cL_law 641 = .ok (.ifCond .eq 52, 3) := by decide +kernel
theorem dL_law_644 : decode cL_law 644 = .ok (.aload_n 1, 1) := by decide +kernel
theorem dL_law_645 : decode cL_law 645 = .ok (.invokevirtual 69, 3) := by decide +kernel
theorem dL_law_648 : decode cL_law 648 = .ok (.ifCond .lt 45, 3) := by decide +kernel
theorem dL_law_651 : decode cL_law 651 = .ok (.aload_n 1, 1) := by decide +kernel
theorem dL_law_652 : decode cL_law 652 = .ok (.iconst 0, 1) := by decide +kernel
theorem dL_law_653 : decode cL_law 653 = .ok (.invokevirtual 9, 3) := by decide +kernel
theorem dL_law_656 : decode cL_law 656 = .ok (.iload 5, 2) := by decide +kernel
theorem dL_law_658 : decode cL_law 658 = .ok (.if_icmp .ne 35, 3) := by decide +kernel
theorem dL_law_661 : decode cL_law 661 = .ok (.aload_n 1, 1) := by decide +kernel
theorem dL_law_662 : decode cL_law 662 = .ok (.iconst 0, 1) := by decide +kernel
theorem dL_law_663 : decode cL_law 663 = .ok (.invokevirtual 43, 3) := by decide +kernel
theorem dL_law_666 : decode cL_law 666 = .ok (.iload 5, 2) := by decide +kernel
theorem dL_law_668 : decode cL_law 668 = .ok (.if_icmp .ne 25, 3) := by decide +kernel
theorem dL_law_671 : decode cL_law 671 = .ok (.aload_n 1, 1) := by decide +kernel
theorem dL_law_672 : decode cL_law 672 = .ok (.bipush 13, 2) := by decide +kernel
theorem dL_law_674 : decode cL_law 674 = .ok (.invokevirtual 9, 3) := by decide +kernel
theorem dL_law_677 : decode cL_law 677 = .ok (.iload 6, 2) := by decide +kernel
theorem dL_law_679 : decode cL_law 679 = .ok (.if_icmp .ne 14, 3) := by decide +kernel
theorem dL_law_682 : decode cL_law 682 = .ok (.aload_n 1, 1) := by decide +kernel
theorem dL_law_683 : decode cL_law 683 = .ok (.invokestatic 100, 3) := by decide +kernel
theorem dL_law_686 : decode cL_law 686 = .ok (.ifCond .eq 7, 3) := by decide +kernel
theorem dL_law_689 : decode cL_law 689 = .ok (.iconst 1, 1) := by decide +kernel
theorem dL_law_690 : decode cL_law 690 = .ok (.goto 4, 3) := by decide +kernel
theorem dL_law_693 : decode cL_law 693 = .ok (.iconst 0, 1) := by decide +kernel
theorem dL_law_694 : decode cL_law 694 = .ok (.ireturn, 1) := by decide +kernel
