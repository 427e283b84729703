theorem dL_low_0 : decode cL_low 0 = .ok (.iload_n 0, 1) := by decide +kernel
theorem dL_low_1 : decode cL_low 1 = .ok (.ldc 7, 2) := by decide +kernel
theorem dL_low_3 : decode cL_low 3 = .ok (.iand, 1) := by decide +kernel
theorem dL_low_4 : decode cL_low 4 = .ok (.iload_n 1, 1) := by decide +kernel
theorem dL_low_5 : decode cL_low 5 = .ok (.irem, 1) := by decide +kernel
theorem dL_low_6 : decode cL_low 6 = .ok (.ireturn, 1) := by decide +kernel
theorem dL_cell_0 : decode cL_cell 0 = .ok (.iload_n 1, 1) := by decide +kernel
theorem dL_cell_1 : decode cL_cell 1 = .ok (.aload_n 0, 1) := by decide +kernel
theorem dL_cell_2 : decode cL_cell 2 = .ok (.arraylength, 1) := by decide +kernel
theorem dL_cell_3 : decode cL_cell 3 = .ok (.if_icmp .ge 9, 3) := by decide +kernel
theorem dL_cell_6 : decode cL_cell 6 = .ok (.aload_n 0, 1) := by decide +kernel
theorem dL_cell_7 : decode cL_cell 7 = .ok (.iload_n 1, 1) := by decide +kernel
theorem dL_cell_8 : decode cL_cell 8 = .ok (.iaload, 1) := by decide +kernel
theorem dL_cell_9 : decode cL_cell 9 = .ok (.goto 11, 3) := by decide +kernel
theorem dL_cell_12 : decode cL_cell 12 = .ok (.ldc 8, 2) := by decide +kernel
theorem dL_cell_14 : decode cL_cell 14 = .ok (.iload_n 1, 1) := by decide +kernel
theorem dL_cell_15 : decode cL_cell 15 = .ok (.imul, 1) := by decide +kernel
theorem dL_cell_16 : decode cL_cell 16 = .ok (.sipush 977, 3) := by decide +kernel
theorem dL_cell_19 : decode cL_cell 19 = .ok (.iadd, 1) := by decide +kernel
theorem dL_cell_20 : decode cL_cell 20 = .ok (.ireturn, 1) := by decide +kernel
theorem dL_commit_0 : decode cL_commit 0 = .ok (.aload_n 0, 1) := by decide +kernel
theorem dL_commit_1 : decode cL_commit 1 = .ok (.iload_n 1, 1) := by decide +kernel
theorem dL_commit_2 : decode cL_commit 2 = .ok (.iload_n 2, 1) := by decide +kernel
theorem dL_commit_3 : decode cL_commit 3 = .ok (.iload_n 3, 1) := by decide +kernel
theorem dL_commit_4 : decode cL_commit 4 = .ok (.iload 4, 2) := by decide +kernel
theorem dL_commit_6 : decode cL_commit 6 = .ok (.invokevirtual 9, 3) := by decide +kernel
theorem dL_commit_9 : decode cL_commit 9 = .ok (.ireturn, 1) := by decide +kernel
theorem dL_commit_10 : decode cL_commit 10 = .ok (.astore 5, 2) := by decide +kernel
theorem dL_commit_12 : decode cL_commit 12 = .ok (.bipush (-3), 2) := by decide +kernel
theorem dL_commit_14 : decode cL_commit 14 = .ok (.ireturn, 1) := by decide +kernel
theorem dL_accounts_0 : decode cL_accounts 0 = .ok (.iconst 0, 1) := by decide +kernel
theorem dL_accounts_1 : decode cL_accounts 1 = .ok (.istore_n 2, 1) := by decide +kernel
theorem dL_accounts_2 : decode cL_accounts 2 = .ok (.iconst 0, 1) := by decide +kernel
theorem dL_accounts_3 : decode cL_accounts 3 = .ok (.istore_n 3, 1) := by decide +kernel
theorem dL_accounts_4 : decode cL_accounts 4 = .ok (.iconst 0, 1) := by decide +kernel
theorem dL_accounts_5 : decode cL_accounts 5 = .ok (.istore 4, 2) := by decide +kernel
theorem dL_accounts_7 : decode cL_accounts 7 = .ok (.aload_n 0, 1) := by decide +kernel
theorem dL_accounts_8 : decode cL_accounts 8 = .ok (.invokevirtual 17, 3) := by decide +kernel
theorem dL_accounts_11 : decode cL_accounts 11 = .ok (.bipush 6, 2) := by decide +kernel
theorem dL_accounts_13 : decode cL_accounts 13 = .ok (.if_icmp .gt 7, 3) := by decide +kernel
theorem dL_accounts_16 : decode cL_accounts 16 = .ok (.iconst 1, 1) := by decide +kernel
theorem dL_accounts_17 : decode cL_accounts 17 = .ok (.goto 4, 3) := by decide +kernel
theorem dL_accounts_20 : decode cL_accounts 20 = .ok (.iconst 0, 1) := by decide +kernel
theorem dL_accounts_21 : decode cL_accounts 21 = .ok (.istore 5, 2) := by decide +kernel
theorem dL_accounts_23 : decode cL_accounts 23 = .ok (.iconst 0, 1) := by decide +kernel
theorem dL_accounts_24 : decode cL_accounts 24 = .ok (.istore 6, 2) := by decide +kernel
theorem dL_accounts_26 : decode cL_accounts 26 = .ok (.iload 6, 2) := by decide +kernel
theorem dL_accounts_28 : decode cL_accounts 28 = .ok (.aload_n 0, 1) := by decide +kernel
theorem dL_accounts_29 : decode cL_accounts 29 = .ok (.invokevirtual 21, 3) := by decide +kernel
theorem dL_accounts_32 : decode cL_accounts 32 = .ok (.if_icmp .ge 106, 3) := by decide +kernel
theorem dL_accounts_35 : decode cL_accounts 35 = .ok (.iload 5, 2) := by decide +kernel
theorem dL_accounts_37 : decode cL_accounts 37 = .ok (.ifCond .eq 101, 3) := by decide +kernel
theorem dL_accounts_40 : decode cL_accounts 40 = .ok (.iload_n 2, 1) := by decide +kernel
theorem dL_accounts_41 : decode cL_accounts 41 = .ok (.aload_n 0, 1) := by decide +kernel
theorem dL_accounts_42 : decode cL_accounts 42 = .ok (.iload 6, 2) := by decide +kernel
theorem dL_accounts_44 : decode cL_accounts 44 = .ok (.invokevirtual 24, 3) := by decide +kernel
theorem dL_accounts_47 : decode cL_accounts 47 = .ok (.iadd, 1) := by decide +kernel
theorem dL_accounts_48 : decode cL_accounts 48 = .ok (.istore_n 2, 1) := by decide +kernel
theorem dL_accounts_49 : decode cL_accounts 49 = .ok (.aload_n 0, 1) := by decide +kernel
theorem dL_accounts_50 : decode cL_accounts 50 = .ok (.iload 6, 2) := by decide +kernel
theorem dL_accounts_52 : decode cL_accounts 52 = .ok (.invokevirtual 28, 3) := by decide +kernel
theorem dL_accounts_55 : decode cL_accounts 55 = .ok (.ifCond .lt 74, 3) := by decide +kernel
theorem dL_accounts_58 : decode cL_accounts 58 = .ok (.aload_n 0, 1) := by decide +kernel
theorem dL_accounts_59 : decode cL_accounts 59 = .ok (.iload 6, 2) := by decide +kernel
theorem dL_accounts_61 : decode cL_accounts 61 = .ok (.invokevirtual 31, 3) := by decide +kernel
theorem dL_accounts_64 : decode cL_accounts 64 = .ok (.ifCond .lt 65, 3) := by decide +kernel
theorem dL_accounts_67 : decode cL_accounts 67 = .ok (.aload_n 0, 1) := by decide +kernel
theorem dL_accounts_68 : decode cL_accounts 68 = .ok (.iload 6, 2) := by decide +kernel
theorem dL_accounts_70 : decode cL_accounts 70 = .ok (.invokevirtual 28, 3) := by decide +kernel
theorem dL_accounts_73 : decode cL_accounts 73 = .ok (.aload_n 0, 1) := by decide +kernel
theorem dL_accounts_74 : decode cL_accounts 74 = .ok (.iload 6, 2) := by decide +kernel
theorem dL_accounts_76 : decode cL_accounts 76 = .ok (.invokevirtual 31, 3) := by decide +kernel
theorem dL_accounts_79 : decode cL_accounts 79 = .ok (.iadd, 1) := by decide +kernel
theorem dL_accounts_80 : decode cL_accounts 80 = .ok (.aload_n 0, 1) := by decide +kernel
theorem dL_accounts_81 : decode cL_accounts 81 = .ok (.iload 6, 2) := by decide +kernel
theorem dL_accounts_83 : decode cL_accounts 83 = .ok (.invokevirtual 24, 3) := by decide +kernel
theorem dL_accounts_86 : decode cL_accounts 86 = .ok (.iadd, 1) := by decide +kernel
theorem dL_accounts_87 : decode cL_accounts 87 = .ok (.aload_n 0, 1) := by decide +kernel
theorem dL_accounts_88 : decode cL_accounts 88 = .ok (.iload 6, 2) := by decide +kernel
theorem dL_accounts_90 : decode cL_accounts 90 = .ok (.invokevirtual 34, 3) := by decide +kernel
theorem dL_accounts_93 : decode cL_accounts 93 = .ok (.iadd, 1) := by decide +kernel
theorem dL_accounts_94 : decode cL_accounts 94 = .ok (.aload_n 1, 1) := by decide +kernel
theorem dL_accounts_95 : decode cL_accounts 95 = .ok (.iload 6, 2) := by decide +kernel
theorem dL_accounts_97 : decode cL_accounts 97 = .ok (.iaload, 1) := by decide +kernel
theorem dL_accounts_98 : decode cL_accounts 98 = .ok (.if_icmp .ne 31, 3) := by decide +kernel
theorem dL_accounts_101 : decode cL_accounts 101 = .ok (.aload_n 0, 1) := by decide +kernel
theorem dL_accounts_102 : decode cL_accounts 102 = .ok (.iload 6, 2) := by decide +kernel
theorem dL_accounts_104 : decode cL_accounts 104 = .ok (.invokevirtual 37, 3) := by decide +kernel
theorem dL_accounts_107 : decode cL_accounts 107 = .ok (.ifCond .lt 22, 3) := by decide +kernel
theorem dL_accounts_110 : decode cL_accounts 110 = .ok (.aload_n 0, 1) := by decide +kernel
theorem dL_accounts_111 : decode cL_accounts 111 = .ok (.iload 6, 2) := by decide +kernel
theorem dL_accounts_113 : decode cL_accounts 113 = .ok (.invokevirtual 37, 3) := by decide +kernel
theorem dL_accounts_116 : decode cL_accounts 116 = .ok (.aload_n 0, 1) := by decide +kernel
theorem dL_accounts_117 : decode cL_accounts 117 = .ok (.iload 6, 2) := by decide +kernel
theorem dL_accounts_119 : decode cL_accounts 119 = .ok (.invokevirtual 28, 3) := by decide +kernel
theorem dL_accounts_122 : decode cL_accounts 122 = .ok (.if_icmp .gt 7, 3) := by decide +kernel
theorem dL_accounts_125 : decode cL_accounts 125 = .ok (.iconst 1, 1) := by decide +kernel
theorem dL_accounts_126 : decode cL_accounts 126 = .ok (.goto 4, 3) := by decide +kernel
theorem dL_accounts_129 : decode cL_accounts 129 = .ok (.iconst 0, 1) := by decide +kernel
theorem dL_accounts_130 : decode cL_accounts 130 = .ok (.istore 5, 2) := by decide +kernel
theorem dL_accounts_132 : decode cL_accounts 132 = .ok (.iinc 6 1, 3) := by decide +kernel
theorem dL_accounts_135 : decode cL_accounts 135 = .ok (.goto (-109), 3) := by decide +kernel
theorem dL_accounts_138 : decode cL_accounts 138 = .ok (.iconst 0, 1) := by decide +kernel
theorem dL_accounts_139 : decode cL_accounts 139 = .ok (.istore 6, 2) := by decide +kernel
theorem dL_accounts_141 : decode cL_accounts 141 = .ok (.iload 6, 2) := by decide +kernel
theorem dL_accounts_143 : decode cL_accounts 143 = .ok (.aload_n 0, 1) := by decide +kernel
theorem dL_accounts_144 : decode cL_accounts 144 = .ok (.invokevirtual 17, 3) := by decide +kernel
theorem dL_accounts_147 : decode cL_accounts 147 = .ok (.if_icmp .ge 84, 3) := by decide +kernel
theorem dL_accounts_150 : decode cL_accounts 150 = .ok (.iload 5, 2) := by decide +kernel
theorem dL_accounts_152 : decode cL_accounts 152 = .ok (.ifCond .eq 79, 3) := by decide +kernel
theorem dL_accounts_155 : decode cL_accounts 155 = .ok (.aload_n 0, 1) := by decide +kernel
theorem dL_accounts_156 : decode cL_accounts 156 = .ok (.iload 6, 2) := by decide +kernel
theorem dL_accounts_158 : decode cL_accounts 158 = .ok (.invokevirtual 40, 3) := by decide +kernel
theorem dL_accounts_161 : decode cL_accounts 161 = .ok (.ifCond .le 61, 3) := by decide +kernel
theorem dL_accounts_164 : decode cL_accounts 164 = .ok (.aload_n 0, 1) := by decide +kernel
theorem dL_accounts_165 : decode cL_accounts 165 = .ok (.iload 6, 2) := by decide +kernel
theorem dL_accounts_167 : decode cL_accounts 167 = .ok (.invokevirtual 43, 3) := by decide +kernel
theorem dL_accounts_170 : decode cL_accounts 170 = .ok (.aload_n 0, 1) := by decide +kernel
theorem dL_accounts_171 : decode cL_accounts 171 = .ok (.invokevirtual 46, 3) := by decide +kernel
theorem dL_accounts_174 : decode cL_accounts 174 = .ok (.if_icmp .lt 48, 3) := by decide +kernel
theorem dL_accounts_177 : decode cL_accounts 177 = .ok (.aload_n 0, 1) := by decide +kernel
theorem dL_accounts_178 : decode cL_accounts 178 = .ok (.iload 6, 2) := by decide +kernel
theorem dL_accounts_180 : decode cL_accounts 180 = .ok (.invokevirtual 49, 3) := by decide +kernel
theorem dL_accounts_183 : decode cL_accounts 183 = .ok (.ifCond .lt 39, 3) := by decide +kernel
theorem dL_accounts_186 : decode cL_accounts 186 = .ok (.aload_n 0, 1) := by decide +kernel
theorem dL_accounts_187 : decode cL_accounts 187 = .ok (.iload 6, 2) := by decide +kernel
theorem dL_accounts_189 : decode cL_accounts 189 = .ok (.invokevirtual 49, 3) := by decide +kernel
theorem dL_accounts_192 : decode cL_accounts 192 = .ok (.aload_n 0, 1) := by decide +kernel
theorem dL_accounts_193 : decode cL_accounts 193 = .ok (.invokevirtual 21, 3) := by decide +kernel
theorem dL_accounts_196 : decode cL_accounts 196 = .ok (.if_icmp .ge 26, 3) := by decide +kernel
theorem dL_accounts_199 : decode cL_accounts 199 = .ok (.aload_n 0, 1) := by decide +kernel
theorem dL_accounts_200 : decode cL_accounts 200 = .ok (.iload 6, 2) := by decide +kernel
theorem dL_accounts_202 : decode cL_accounts 202 = .ok (.invokevirtual 40, 3) := by decide +kernel
theorem dL_accounts_205 : decode cL_accounts 205 = .ok (.aload_n 0, 1) := by decide +kernel
theorem dL_accounts_206 : decode cL_accounts 206 = .ok (.aload_n 0, 1) := by decide +kernel
theorem dL_accounts_207 : decode cL_accounts 207 = .ok (.iload 6, 2) := by decide +kernel
theorem dL_accounts_209 : decode cL_accounts 209 = .ok (.invokevirtual 49, 3) := by decide +kernel
theorem dL_accounts_212 : decode cL_accounts 212 = .ok (.invokevirtual 31, 3) := by decide +kernel
theorem dL_accounts_215 : decode cL_accounts 215 = .ok (.if_icmp .gt 7, 3) := by decide +kernel
theorem dL_accounts_218 : decode cL_accounts 218 = .ok (.iconst 1, 1) := by decide +kernel
theorem dL_accounts_219 : decode cL_accounts 219 = .ok (.goto 4, 3) := by decide +kernel
theorem dL_accounts_222 : decode cL_accounts 222 = .ok (.iconst 0, 1) := by decide +kernel
theorem dL_accounts_223 : decode cL_accounts 223 = .ok (.istore 5, 2) := by decide +kernel
theorem dL_accounts_225 : decode cL_accounts 225 = .ok (.iinc 6 1, 3) := by decide +kernel
theorem dL_accounts_228 : decode cL_accounts 228 = .ok (.goto (-87), 3) := by decide +kernel
theorem dL_accounts_231 : decode cL_accounts 231 = .ok (.iconst 0, 1) := by decide +kernel
theorem dL_accounts_232 : decode cL_accounts 232 = .ok (.istore 6, 2) := by decide +kernel
theorem dL_accounts_234 : decode cL_accounts 234 = .ok (.iload 6, 2) := by decide +kernel
theorem dL_accounts_236 : decode cL_accounts 236 = .ok (.aload_n 0, 1) := by decide +kernel
theorem dL_accounts_237 : decode cL_accounts 237 = .ok (.invokevirtual 52, 3) := by decide +kernel
theorem dL_accounts_240 : decode cL_accounts 240 = .ok (.if_icmp .ge 213, 3) := by decide +kernel
theorem dL_accounts_243 : decode cL_accounts 243 = .ok (.iload 5, 2) := by decide +kernel
theorem dL_accounts_245 : decode cL_accounts 245 = .ok (.ifCond .eq 208, 3) := by decide +kernel
theorem dL_accounts_248 : decode cL_accounts 248 = .ok (.iconst 0, 1) := by decide +kernel
theorem dL_accounts_249 : decode cL_accounts 249 = .ok (.istore 7, 2) := by decide +kernel
theorem dL_accounts_251 : decode cL_accounts 251 = .ok (.iconst 0, 1) := by decide +kernel
theorem dL_accounts_252 : decode cL_accounts 252 = .ok (.istore 8, 2) := by decide +kernel
theorem dL_accounts_254 : decode cL_accounts 254 = .ok (.iload 8, 2) := by decide +kernel
theorem dL_accounts_256 : decode cL_accounts 256 = .ok (.aload_n 0, 1) := by decide +kernel
theorem dL_accounts_257 : decode cL_accounts 257 = .ok (.invokevirtual 21, 3) := by decide +kernel
theorem dL_accounts_260 : decode cL_accounts 260 = .ok (.if_icmp .ge 45, 3) := by decide +kernel
theorem dL_accounts_263 : decode cL_accounts 263 = .ok (.iload 7, 2) := by decide +kernel
theorem dL_accounts_265 : decode cL_accounts 265 = .ok (.aload_n 0, 1) := by decide +kernel
theorem dL_accounts_266 : decode cL_accounts 266 = .ok (.iload 6, 2) := by decide +kernel
theorem dL_accounts_268 : decode cL_accounts 268 = .ok (.iload 8, 2) := by decide +kernel
theorem dL_accounts_270 : decode cL_accounts 270 = .ok (.invokevirtual 55, 3) := by decide +kernel
theorem dL_accounts_273 : decode cL_accounts 273 = .ok (.iadd, 1) := by decide +kernel
theorem dL_accounts_274 : decode cL_accounts 274 = .ok (.istore 7, 2) := by decide +kernel
theorem dL_accounts_276 : decode cL_accounts 276 = .ok (.iload 5, 2) := by decide +kernel
theorem dL_accounts_278 : decode cL_accounts 278 = .ok (.ifCond .eq 18, 3) := by decide +kernel
theorem dL_accounts_281 : decode cL_accounts 281 = .ok (.aload_n 0, 1) := by decide +kernel
theorem dL_accounts_282 : decode cL_accounts 282 = .ok (.iload 6, 2) := by decide +kernel
theorem dL_accounts_284 : decode cL_accounts 284 = .ok (.iload 8, 2) := by decide +kernel
theorem dL_accounts_286 : decode cL_accounts 286 = .ok (.invokevirtual 55, 3) := by decide +kernel
theorem dL_accounts_289 : decode cL_accounts 289 = .ok (.ifCond .lt 7, 3) := by decide +kernel
theorem dL_accounts_292 : decode cL_accounts 292 = .ok (.iconst 1, 1) := by decide +kernel
theorem dL_accounts_293 : decode cL_accounts 293 = .ok (.goto 4, 3) := by decide +kernel
theorem dL_accounts_296 : decode cL_accounts 296 = .ok (.iconst 0, 1) := by decide +kernel
theorem dL_accounts_297 : decode cL_accounts 297 = .ok (.istore 5, 2) := by decide +kernel
theorem dL_accounts_299 : decode cL_accounts 299 = .ok (.iinc 8 1, 3) := by decide +kernel
theorem dL_accounts_302 : decode cL_accounts 302 = .ok (.goto (-48), 3) := by decide +kernel
theorem dL_accounts_305 : decode cL_accounts 305 = .ok (.iload_n 3, 1) := by decide +kernel
theorem dL_accounts_306 : decode cL_accounts 306 = .ok (.iload 7, 2) := by decide +kernel
theorem dL_accounts_308 : decode cL_accounts 308 = .ok (.iadd, 1) := by decide +kernel
theorem dL_accounts_309 : decode cL_accounts 309 = .ok (.istore_n 3, 1) := by decide +kernel
theorem dL_accounts_310 : decode cL_accounts 310 = .ok (.iload 4, 2) := by decide +kernel
theorem dL_accounts_312 : decode cL_accounts 312 = .ok (.aload_n 0, 1) := by decide +kernel
theorem dL_accounts_313 : decode cL_accounts 313 = .ok (.iload 6, 2) := by decide +kernel
theorem dL_accounts_315 : decode cL_accounts 315 = .ok (.invokevirtual 59, 3) := by decide +kernel
theorem dL_accounts_318 : decode cL_accounts 318 = .ok (.iadd, 1) := by decide +kernel
theorem dL_accounts_319 : decode cL_accounts 319 = .ok (.istore 4, 2) := by decide +kernel
theorem dL_accounts_321 : decode cL_accounts 321 = .ok (.iload 5, 2) := by decide +kernel
theorem dL_accounts_323 : decode cL_accounts 323 = .ok (.ifCond .eq 90, 3) := by decide +kernel
theorem dL_accounts_326 : decode cL_accounts 326 = .ok (.aload_n 0, 1) := by decide +kernel
theorem dL_accounts_327 : decode cL_accounts 327 = .ok (.iload 6, 2) := by decide +kernel
theorem dL_accounts_329 : decode cL_accounts 329 = .ok (.invokevirtual 62, 3) := by decide +kernel
theorem dL_accounts_332 : decode cL_accounts 332 = .ok (.ifCond .lt 81, 3) := by decide +kernel
theorem dL_accounts_335 : decode cL_accounts 335 = .ok (.iload 7, 2) := by decide +kernel
theorem dL_accounts_337 : decode cL_accounts 337 = .ok (.aload_n 0, 1) := by decide +kernel
theorem dL_accounts_338 : decode cL_accounts 338 = .ok (.iload 6, 2) := by decide +kernel
theorem dL_accounts_340 : decode cL_accounts 340 = .ok (.invokevirtual 62, 3) := by decide +kernel
theorem dL_accounts_343 : decode cL_accounts 343 = .ok (.iadd, 1) := by decide +kernel
theorem dL_accounts_344 : decode cL_accounts 344 = .ok (.aload_n 1, 1) := by decide +kernel
theorem dL_accounts_345 : decode cL_accounts 345 = .ok (.bipush 16, 2) := by decide +kernel
theorem dL_accounts_347 : decode cL_accounts 347 = .ok (.iload 6, 2) := by decide +kernel
theorem dL_accounts_349 : decode cL_accounts 349 = .ok (.iadd, 1) := by decide +kernel
theorem dL_accounts_350 : decode cL_accounts 350 = .ok (.iaload, 1) := by decide +kernel
theorem dL_accounts_351 : decode cL_accounts 351 = .ok (.if_icmp .ne 62, 3) := by decide +kernel
theorem dL_accounts_354 : decode cL_accounts 354 = .ok (.aload_n 0, 1) := by decide +kernel
theorem dL_accounts_355 : decode cL_accounts 355 = .ok (.iload 6, 2) := by decide +kernel
theorem dL_accounts_357 : decode cL_accounts 357 = .ok (.invokevirtual 59, 3) := by decide +kernel
theorem dL_accounts_360 : decode cL_accounts 360 = .ok (.ifCond .lt 53, 3) := by decide +kernel
theorem dL_accounts_363 : decode cL_accounts 363 = .ok (.aload_n 0, 1) := by decide +kernel
theorem dL_accounts_364 : decode cL_accounts 364 = .ok (.iload 6, 2) := by decide +kernel
theorem dL_accounts_366 : decode cL_accounts 366 = .ok (.invokevirtual 59, 3) := by decide +kernel
theorem dL_accounts_369 : decode cL_accounts 369 = .ok (.aload_n 0, 1) := by decide +kernel
theorem dL_accounts_370 : decode cL_accounts 370 = .ok (.iload 6, 2) := by decide +kernel
theorem dL_accounts_372 : decode cL_accounts 372 = .ok (.invokevirtual 62, 3) := by decide +kernel
theorem dL_accounts_375 : decode cL_accounts 375 = .ok (.if_icmp .gt 38, 3) := by decide +kernel
theorem dL_accounts_378 : decode cL_accounts 378 = .ok (.aload_n 0, 1) := by decide +kernel
theorem dL_accounts_379 : decode cL_accounts 379 = .ok (.iload 6, 2) := by decide +kernel
theorem dL_accounts_381 : decode cL_accounts 381 = .ok (.invokevirtual 65, 3) := by decide +kernel
theorem dL_accounts_384 : decode cL_accounts 384 = .ok (.ifCond .ne 7, 3) := by decide +kernel
theorem dL_accounts_387 : decode cL_accounts 387 = .ok (.iconst 1, 1) := by decide +kernel
theorem dL_accounts_388 : decode cL_accounts 388 = .ok (.goto 4, 3) := by decide +kernel
theorem dL_accounts_391 : decode cL_accounts 391 = .ok (.iconst 0, 1) := by decide +kernel
theorem dL_accounts_392 : decode cL_accounts 392 = .ok (.aload_n 0, 1) := by decide +kernel
theorem dL_accounts_393 : decode cL_accounts 393 = .ok (.iload 6, 2) := by decide +kernel
theorem dL_accounts_395 : decode cL_accounts 395 = .ok (.invokevirtual 62, 3) := by decide +kernel
theorem dL_accounts_398 : decode cL_accounts 398 = .ok (.ifCond .ne 7, 3) := by decide +kernel
theorem dL_accounts_401 : decode cL_accounts 401 = .ok (.iconst 1, 1) := by decide +kernel
theorem dL_accounts_402 : decode cL_accounts 402 = .ok (.goto 4, 3) := by decide +kernel
theorem dL_accounts_405 : decode cL_accounts 405 = .ok (.iconst 0, 1) := by decide +kernel
theorem dL_accounts_406 : decode cL_accounts 406 = .ok (.if_icmp .ne 7, 3) := by decide +kernel
theorem dL_accounts_409 : decode cL_accounts 409 = .ok (.iconst 1, 1) := by decide +kernel
theorem dL_accounts_410 : decode cL_accounts 410 = .ok (.goto 4, 3) := by decide +kernel
theorem dL_accounts_413 : decode cL_accounts 413 = .ok (.iconst 0, 1) := by decide +kernel
theorem dL_accounts_414 : decode cL_accounts 414 = .ok (.istore 5, 2) := by decide +kernel
theorem dL_accounts_416 : decode cL_accounts 416 = .ok (.iload 5, 2) := by decide +kernel
theorem dL_accounts_418 : decode cL_accounts 418 = .ok (.ifCond .eq 26, 3) := by decide +kernel
theorem dL_accounts_421 : decode cL_accounts 421 = .ok (.aload_n 0, 1) := by decide +kernel
theorem dL_accounts_422 : decode cL_accounts 422 = .ok (.iload 6, 2) := by decide +kernel
theorem dL_accounts_424 : decode cL_accounts 424 = .ok (.invokevirtual 59, 3) := by decide +kernel
theorem dL_accounts_427 : decode cL_accounts 427 = .ok (.ifCond .eq 13, 3) := by decide +kernel
theorem dL_accounts_430 : decode cL_accounts 430 = .ok (.aload_n 0, 1) := by decide +kernel
theorem dL_accounts_431 : decode cL_accounts 431 = .ok (.iload 6, 2) := by decide +kernel
theorem dL_accounts_433 : decode cL_accounts 433 = .ok (.invokevirtual 65, 3) := by decide +kernel
theorem dL_accounts_436 : decode cL_accounts 436 = .ok (.iconst 3, 1) := by decide +kernel
theorem dL_accounts_437 : decode cL_accounts 437 = .ok (.if_icmp .ne 7, 3) := by decide +kernel
theorem dL_accounts_440 : decode cL_accounts 440 = .ok (.iconst 1, 1) := by decide +kernel
theorem dL_accounts_441 : decode cL_accounts 441 = .ok (.goto 4, 3) := by decide +kernel
theorem dL_accounts_444 : decode cL_accounts 444 = .ok (.iconst 0, 1) := by decide +kernel
theorem dL_accounts_445 : decode cL_accounts 445 = .ok (.istore 5, 2) := by decide +kernel
theorem dL_accounts_447 : decode cL_accounts 447 = .ok (.iinc 6 1, 3) := by decide +kernel
theorem dL_accounts_450 : decode cL_accounts 450 = .ok (.goto (-216), 3) := by decide +kernel
theorem dL_accounts_453 : decode cL_accounts 453 = .ok (.iconst 0, 1) := by decide +kernel
theorem dL_accounts_454 : decode cL_accounts 454 = .ok (.istore 6, 2) := by decide +kernel
theorem dL_accounts_456 : decode cL_accounts 456 = .ok (.iload 6, 2) := by decide +kernel
theorem dL_accounts_458 : decode cL_accounts 458 = .ok (.aload_n 0, 1) := by decide +kernel
theorem dL_accounts_459 : decode cL_accounts 459 = .ok (.invokevirtual 21, 3) := by decide +kernel
theorem dL_accounts_462 : decode cL_accounts 462 = .ok (.if_icmp .ge 20, 3) := by decide +kernel
theorem dL_accounts_465 : decode cL_accounts 465 = .ok (.iload 4, 2) := by decide +kernel
theorem dL_accounts_467 : decode cL_accounts 467 = .ok (.aload_n 0, 1) := by decide +kernel
theorem dL_accounts_468 : decode cL_accounts 468 = .ok (.iload 6, 2) := by decide +kernel
theorem dL_accounts_470 : decode cL_accounts 470 = .ok (.invokevirtual 68, 3) := by decide +kernel
theorem dL_accounts_473 : decode cL_accounts 473 = .ok (.isub, 1) := by decide +kernel
theorem dL_accounts_474 : decode cL_accounts 474 = .ok (.istore 4, 2) := by decide +kernel
theorem dL_accounts_476 : decode cL_accounts 476 = .ok (.iinc 6 1, 3) := by decide +kernel
theorem dL_accounts_479 : decode cL_accounts 479 = .ok (.goto (-23), 3) := by decide +kernel
theorem dL_accounts_482 : decode cL_accounts 482 = .ok (.iload 5, 2) := by decide +kernel
theorem dL_accounts_484 : decode cL_accounts 484 = .ok (.ifCond .eq 17, 3) := by decide +kernel
theorem dL_accounts_487 : decode cL_accounts 487 = .ok (.iload 4, 2) := by decide +kernel
theorem dL_accounts_489 : decode cL_accounts 489 = .ok (.ifCond .ne 12, 3) := by decide +kernel
theorem dL_accounts_492 : decode cL_accounts 492 = .ok (.iload_n 3, 1) := by decide +kernel
theorem dL_accounts_493 : decode cL_accounts 493 = .ok (.iload_n 2, 1) := by decide +kernel
theorem dL_accounts_494 : decode cL_accounts 494 = .ok (.if_icmp .ne 7, 3) := by decide +kernel
theorem dL_accounts_497 : decode cL_accounts 497 = .ok (.iconst 1, 1) := by decide +kernel
theorem dL_accounts_498 : decode cL_accounts 498 = .ok (.goto 4, 3) := by decide +kernel
theorem dL_accounts_501 : decode cL_accounts 501 = .ok (.iconst 0, 1) := by decide +kernel
theorem dL_accounts_502 : decode cL_accounts 502 = .ok (.ireturn, 1) := by decide +kernel
theorem dL_charges_0 : decode cL_charges 0 = .ok (.aload_n 0, 1) := by decide +kernel
theorem dL_charges_1 : decode cL_charges 1 = .ok (.invokevirtual 71, 3) := by decide +kernel
theorem dL_charges_4 : decode cL_charges 4 = .ok (.istore_n 1, 1) := by decide +kernel
theorem dL_charges_5 : decode cL_charges 5 = .ok (.iconst 0, 1) := by decide +kernel
theorem dL_charges_6 : decode cL_charges 6 = .ok (.istore_n 2, 1) := by decide +kernel
theorem dL_charges_7 : decode cL_charges 7 = .ok (.iconst (-1), 1) := by decide +kernel
theorem dL_charges_8 : decode cL_charges 8 = .ok (.istore_n 3, 1) := by decide +kernel
theorem dL_charges_9 : decode cL_charges 9 = .ok (.iconst 1, 1) := by decide +kernel
theorem dL_charges_10 : decode cL_charges 10 = .ok (.istore 4, 2) := by decide +kernel
theorem dL_charges_12 : decode cL_charges 12 = .ok (.aload_n 0, 1) := by decide +kernel
theorem dL_charges_13 : decode cL_charges 13 = .ok (.invokevirtual 52, 3) := by decide +kernel
theorem dL_charges_16 : decode cL_charges 16 = .ok (.iconst 1, 1) := by decide +kernel
theorem dL_charges_17 : decode cL_charges 17 = .ok (.isub, 1) := by decide +kernel
theorem dL_charges_18 : decode cL_charges 18 = .ok (.istore 5, 2) := by decide +kernel
theorem dL_charges_20 : decode cL_charges 20 = .ok (.iload 5, 2) := by decide +kernel
theorem dL_charges_22 : decode cL_charges 22 = .ok (.ifCond .lt 35, 3) := by decide +kernel
theorem dL_charges_25 : decode cL_charges 25 = .ok (.iload_n 2, 1) := by decide +kernel
theorem dL_charges_26 : decode cL_charges 26 = .ok (.aload_n 0, 1) := by decide +kernel
theorem dL_charges_27 : decode cL_charges 27 = .ok (.iload 5, 2) := by decide +kernel
theorem dL_charges_29 : decode cL_charges 29 = .ok (.invokevirtual 59, 3) := by decide +kernel
theorem dL_charges_32 : decode cL_charges 32 = .ok (.iadd, 1) := by decide +kernel
theorem dL_charges_33 : decode cL_charges 33 = .ok (.istore_n 2, 1) := by decide +kernel
theorem dL_charges_34 : decode cL_charges 34 = .ok (.aload_n 0, 1) := by decide +kernel
theorem dL_charges_35 : decode cL_charges 35 = .ok (.iload 5, 2) := by decide +kernel
theorem dL_charges_37 : decode cL_charges 37 = .ok (.invokevirtual 65, 3) := by decide +kernel
theorem dL_charges_40 : decode cL_charges 40 = .ok (.iconst 3, 1) := by decide +kernel
theorem dL_charges_41 : decode cL_charges 41 = .ok (.if_icmp .ne 8, 3) := by decide +kernel
theorem dL_charges_44 : decode cL_charges 44 = .ok (.iload 5, 2) := by decide +kernel
theorem dL_charges_46 : decode cL_charges 46 = .ok (.goto 4, 3) := by decide +kernel
theorem dL_charges_49 : decode cL_charges 49 = .ok (.iload_n 3, 1) := by decide +kernel
theorem dL_charges_50 : decode cL_charges 50 = .ok (.istore_n 3, 1) := by decide +kernel
theorem dL_charges_51 : decode cL_charges 51 = .ok (.iinc 5 (-1), 3) := by decide +kernel
theorem dL_charges_54 : decode cL_charges 54 = .ok (.goto (-34), 3) := by decide +kernel
theorem dL_charges_57 : decode cL_charges 57 = .ok (.iload_n 2, 1) := by decide +kernel
theorem dL_charges_58 : decode cL_charges 58 = .ok (.iload_n 1, 1) := by decide +kernel
theorem dL_charges_59 : decode cL_charges 59 = .ok (.if_icmp .ne 26, 3) := by decide +kernel
theorem dL_charges_62 : decode cL_charges 62 = .ok (.iload_n 3, 1) := by decide +kernel
theorem dL_charges_63 : decode cL_charges 63 = .ok (.ifCond .ge 10, 3) := by decide +kernel
theorem dL_charges_66 : decode cL_charges 66 = .ok (.iload_n 1, 1) := by decide +kernel
theorem dL_charges_67 : decode cL_charges 67 = .ok (.ifCond .ne 18, 3) := by decide +kernel
theorem dL_charges_70 : decode cL_charges 70 = .ok (.goto 11, 3) := by decide +kernel
theorem dL_charges_73 : decode cL_charges 73 = .ok (.aload_n 0, 1) := by decide +kernel
theorem dL_charges_74 : decode cL_charges 74 = .ok (.iload_n 3, 1) := by decide +kernel
theorem dL_charges_75 : decode cL_charges 75 = .ok (.invokevirtual 59, 3) := by decide +kernel
theorem dL_charges_78 : decode cL_charges 78 = .ok (.ifCond .le 7, 3) := by decide +kernel
theorem dL_charges_81 : decode cL_charges 81 = .ok (.iconst 1, 1) := by decide +kernel
theorem dL_charges_82 : decode cL_charges 82 = .ok (.goto 4, 3) := by decide +kernel
theorem dL_charges_85 : decode cL_charges 85 = .ok (.iconst 0, 1) := by decide +kernel
theorem dL_charges_86 : decode cL_charges 86 = .ok (.istore 4, 2) := by decide +kernel
theorem dL_charges_88 : decode cL_charges 88 = .ok (.aload_n 0, 1) := by decide +kernel
theorem dL_charges_89 : decode cL_charges 89 = .ok (.invokevirtual 52, 3) := by decide +kernel
theorem dL_charges_92 : decode cL_charges 92 = .ok (.ifCond .ne 7, 3) := by decide +kernel
theorem dL_charges_95 : decode cL_charges 95 = .ok (.iconst 0, 1) := by decide +kernel
theorem dL_charges_96 : decode cL_charges 96 = .ok (.goto 14, 3) := by decide +kernel
theorem dL_charges_99 : decode cL_charges 99 = .ok (.aload_n 0, 1) := by decide +kernel
theorem dL_charges_100 : decode cL_charges 100 = .ok (.iconst 0, 1) := by decide +kernel
theorem dL_charges_101 : decode cL_charges 101 = .ok (.invokevirtual 62, 3) := by decide +kernel
theorem dL_charges_104 : decode cL_charges 104 = .ok (.aload_n 0, 1) := by decide +kernel
theorem dL_charges_105 : decode cL_charges 105 = .ok (.iconst 0, 1) := by decide +kernel
theorem dL_charges_106 : decode cL_charges 106 = .ok (.invokevirtual 59, 3) := by decide +kernel
theorem dL_charges_109 : decode cL_charges 109 = .ok (.isub, 1) := by decide +kernel
theorem dL_charges_110 : decode cL_charges 110 = .ok (.istore 5, 2) := by decide +kernel
theorem dL_charges_112 : decode cL_charges 112 = .ok (.aload_n 0, 1) := by decide +kernel
theorem dL_charges_113 : decode cL_charges 113 = .ok (.invokevirtual 21, 3) := by decide +kernel
theorem dL_charges_116 : decode cL_charges 116 = .ok (.ifCond .ne 7, 3) := by decide +kernel
theorem dL_charges_119 : decode cL_charges 119 = .ok (.iconst 0, 1) := by decide +kernel
theorem dL_charges_120 : decode cL_charges 120 = .ok (.goto 8, 3) := by decide +kernel
theorem dL_charges_123 : decode cL_charges 123 = .ok (.aload_n 0, 1) := by decide +kernel
theorem dL_charges_124 : decode cL_charges 124 = .ok (.iconst 0, 1) := by decide +kernel
theorem dL_charges_125 : decode cL_charges 125 = .ok (.invokevirtual 68, 3) := by decide +kernel
theorem dL_charges_128 : decode cL_charges 128 = .ok (.istore 6, 2) := by decide +kernel
theorem dL_charges_130 : decode cL_charges 130 = .ok (.aload_n 0, 1) := by decide +kernel
theorem dL_charges_131 : decode cL_charges 131 = .ok (.invokevirtual 21, 3) := by decide +kernel
theorem dL_charges_134 : decode cL_charges 134 = .ok (.ifCond .ne 7, 3) := by decide +kernel
theorem dL_charges_137 : decode cL_charges 137 = .ok (.iconst 0, 1) := by decide +kernel
theorem dL_charges_138 : decode cL_charges 138 = .ok (.goto 8, 3) := by decide +kernel
theorem dL_charges_141 : decode cL_charges 141 = .ok (.aload_n 0, 1) := by decide +kernel
theorem dL_charges_142 : decode cL_charges 142 = .ok (.iconst 0, 1) := by decide +kernel
theorem dL_charges_143 : decode cL_charges 143 = .ok (.invokevirtual 24, 3) := by decide +kernel
theorem dL_charges_146 : decode cL_charges 146 = .ok (.istore 7, 2) := by decide +kernel
theorem dL_charges_148 : decode cL_charges 148 = .ok (.iload 4, 2) := by decide +kernel
theorem dL_charges_150 : decode cL_charges 150 = .ok (.ifCond .eq 52, 3) := by decide +kernel
theorem dL_charges_153 : decode cL_charges 153 = .ok (.aload_n 0, 1) := by decide +kernel
theorem dL_charges_154 : decode cL_charges 154 = .ok (.invokevirtual 74, 3) := by decide +kernel
theorem dL_charges_157 : decode cL_charges 157 = .ok (.iload_n 1, 1) := by decide +kernel
theorem dL_charges_158 : decode cL_charges 158 = .ok (.if_icmp .ne 44, 3) := by decide +kernel
theorem dL_charges_161 : decode cL_charges 161 = .ok (.aload_n 0, 1) := by decide +kernel
theorem dL_charges_162 : decode cL_charges 162 = .ok (.invokevirtual 52, 3) := by decide +kernel
theorem dL_charges_165 : decode cL_charges 165 = .ok (.ifCond .eq 13, 3) := by decide +kernel
theorem dL_charges_168 : decode cL_charges 168 = .ok (.aload_n 0, 1) := by decide +kernel
theorem dL_charges_169 : decode cL_charges 169 = .ok (.iconst 0, 1) := by decide +kernel
theorem dL_charges_170 : decode cL_charges 170 = .ok (.invokevirtual 62, 3) := by decide +kernel
theorem dL_charges_173 : decode cL_charges 173 = .ok (.iload 5, 2) := by decide +kernel
theorem dL_charges_175 : decode cL_charges 175 = .ok (.if_icmp .ne 27, 3) := by decide +kernel
theorem dL_charges_178 : decode cL_charges 178 = .ok (.aload_n 0, 1) := by decide +kernel
theorem dL_charges_179 : decode cL_charges 179 = .ok (.invokevirtual 21, 3) := by decide +kernel
theorem dL_charges_182 : decode cL_charges 182 = .ok (.ifCond .eq 16, 3) := by decide +kernel
theorem dL_charges_185 : decode cL_charges 185 = .ok (.aload_n 0, 1) := by decide +kernel
theorem dL_charges_186 : decode cL_charges 186 = .ok (.iconst 0, 1) := by decide +kernel
theorem dL_charges_187 : decode cL_charges 187 = .ok (.invokevirtual 24, 3) := by decide +kernel
theorem dL_charges_190 : decode cL_charges 190 = .ok (.iload 7, 2) := by decide +kernel
theorem dL_charges_192 : decode cL_charges 192 = .ok (.iload 6, 2) := by decide +kernel
theorem dL_charges_194 : decode cL_charges 194 = .ok (.iadd, 1) := by decide +kernel
theorem dL_charges_195 : decode cL_charges 195 = .ok (.if_icmp .ne 7, 3) := by decide +kernel
theorem dL_charges_198 : decode cL_charges 198 = .ok (.iconst 1, 1) := by decide +kernel
theorem dL_charges_199 : decode cL_charges 199 = .ok (.goto 4, 3) := by decide +kernel
theorem dL_charges_202 : decode cL_charges 202 = .ok (.iconst 0, 1) := by decide +kernel
theorem dL_charges_203 : decode cL_charges 203 = .ok (.istore 4, 2) := by decide +kernel
theorem dL_charges_205 : decode cL_charges 205 = .ok (.iconst 0, 1) := by decide +kernel
theorem dL_charges_206 : decode cL_charges 206 = .ok (.istore 8, 2) := by decide +kernel
theorem dL_charges_208 : decode cL_charges 208 = .ok (.iload 8, 2) := by decide +kernel
theorem dL_charges_210 : decode cL_charges 210 = .ok (.aload_n 0, 1) := by decide +kernel
theorem dL_charges_211 : decode cL_charges 211 = .ok (.invokevirtual 52, 3) := by decide +kernel
theorem dL_charges_214 : decode cL_charges 214 = .ok (.if_icmp .ge 40, 3) := by decide +kernel
theorem dL_charges_217 : decode cL_charges 217 = .ok (.iload 4, 2) := by decide +kernel
theorem dL_charges_219 : decode cL_charges 219 = .ok (.ifCond .eq 35, 3) := by decide +kernel
theorem dL_charges_222 : decode cL_charges 222 = .ok (.aload_n 0, 1) := by decide +kernel
theorem dL_charges_223 : decode cL_charges 223 = .ok (.iload 8, 2) := by decide +kernel
theorem dL_charges_225 : decode cL_charges 225 = .ok (.invokevirtual 65, 3) := by decide +kernel
theorem dL_charges_228 : decode cL_charges 228 = .ok (.iconst 3, 1) := by decide +kernel
theorem dL_charges_229 : decode cL_charges 229 = .ok (.if_icmp .eq 16, 3) := by decide +kernel
theorem dL_charges_232 : decode cL_charges 232 = .ok (.aload_n 0, 1) := by decide +kernel
theorem dL_charges_233 : decode cL_charges 233 = .ok (.iload 8, 2) := by decide +kernel
theorem dL_charges_235 : decode cL_charges 235 = .ok (.invokevirtual 59, 3) := by decide +kernel
theorem dL_charges_238 : decode cL_charges 238 = .ok (.ifCond .ne 7, 3) := by decide +kernel
theorem dL_charges_241 : decode cL_charges 241 = .ok (.iconst 1, 1) := by decide +kernel
theorem dL_charges_242 : decode cL_charges 242 = .ok (.goto 4, 3) := by decide +kernel
theorem dL_charges_245 : decode cL_charges 245 = .ok (.iconst 0, 1) := by decide +kernel
theorem dL_charges_246 : decode cL_charges 246 = .ok (.istore 4, 2) := by decide +kernel
theorem dL_charges_248 : decode cL_charges 248 = .ok (.iinc 8 1, 3) := by decide +kernel
theorem dL_charges_251 : decode cL_charges 251 = .ok (.goto (-43), 3) := by decide +kernel
theorem dL_charges_254 : decode cL_charges 254 = .ok (.iload 4, 2) := by decide +kernel
theorem dL_charges_256 : decode cL_charges 256 = .ok (.ifCond .eq 21, 3) := by decide +kernel
theorem dL_charges_259 : decode cL_charges 259 = .ok (.aload_n 0, 1) := by decide +kernel
theorem dL_charges_260 : decode cL_charges 260 = .ok (.invokevirtual 71, 3) := by decide +kernel
theorem dL_charges_263 : decode cL_charges 263 = .ok (.ifCond .ne 14, 3) := by decide +kernel
theorem dL_charges_266 : decode cL_charges 266 = .ok (.aload_n 0, 1) := by decide +kernel
theorem dL_charges_267 : decode cL_charges 267 = .ok (.invokevirtual 74, 3) := by decide +kernel
theorem dL_charges_270 : decode cL_charges 270 = .ok (.ifCond .ne 7, 3) := by decide +kernel
theorem dL_charges_273 : decode cL_charges 273 = .ok (.iconst 1, 1) := by decide +kernel
theorem dL_charges_274 : decode cL_charges 274 = .ok (.goto 4, 3) := by decide +kernel
theorem dL_charges_277 : decode cL_charges 277 = .ok (.iconst 0, 1) := by decide +kernel
theorem dL_charges_278 : decode cL_charges 278 = .ok (.ireturn, 1) := by decide +kernel
theorem dL_law_0 : decode cL_law 0 = .ok (.new 10, 3) := by decide +kernel
theorem dL_law_3 : decode cL_law 3 = .ok (.dup, 1) := by decide +kernel
theorem dL_law_4 : decode cL_law 4 = .ok (.invokespecial 77, 3) := by decide +kernel
theorem dL_law_7 : decode cL_law 7 = .ok (.astore_n 1, 1) := by decide +kernel
theorem dL_law_8 : decode cL_law 8 = .ok (.bipush 32, 2) := by decide +kernel
theorem dL_law_10 : decode cL_law 10 = .ok (.newarray .int, 2) := by decide +kernel
theorem dL_law_12 : decode cL_law 12 = .ok (.astore_n 2, 1) := by decide +kernel
theorem dL_law_13 : decode cL_law 13 = .ok (.aload_n 1, 1) := by decide +kernel
theorem dL_law_14 : decode cL_law 14 = .ok (.aload_n 2, 1) := by decide +kernel
theorem dL_law_15 : decode cL_law 15 = .ok (.invokestatic 78, 3) := by decide +kernel
theorem dL_law_18 : decode cL_law 18 = .ok (.ifCond .eq 22, 3) := by decide +kernel
theorem dL_law_21 : decode cL_law 21 = .ok (.aload_n 1, 1) := by decide +kernel
theorem dL_law_22 : decode cL_law 22 = .ok (.invokevirtual 74, 3) := by decide +kernel
theorem dL_law_25 : decode cL_law 25 = .ok (.ifCond .ne 15, 3) := by decide +kernel
theorem dL_law_28 : decode cL_law 28 = .ok (.aload_n 1, 1) := by decide +kernel
theorem dL_law_29 : decode cL_law 29 = .ok (.iconst 5, 1) := by decide +kernel
theorem dL_law_30 : decode cL_law 30 = .ok (.invokevirtual 84, 3) := by decide +kernel
theorem dL_law_33 : decode cL_law 33 = .ok (.ifCond .ne 7, 3) := by decide +kernel
theorem dL_law_36 : decode cL_law 36 = .ok (.iconst 1, 1) := by decide +kernel
theorem dL_law_37 : decode cL_law 37 = .ok (.goto 4, 3) := by decide +kernel
theorem dL_law_40 : decode cL_law 40 = .ok (.iconst 0, 1) := by decide +kernel
theorem dL_law_41 : decode cL_law 41 = .ok (.istore_n 3, 1) := by decide +kernel
theorem dL_law_42 : decode cL_law 42 = .ok (.iconst 5, 1) := by decide +kernel
theorem dL_law_43 : decode cL_law 43 = .ok (.aload_n 0, 1) := by decide +kernel
theorem dL_law_44 : decode cL_law 44 = .ok (.iconst 0, 1) := by decide +kernel
theorem dL_law_45 : decode cL_law 45 = .ok (.invokestatic 87, 3) := by decide +kernel
theorem dL_law_48 : decode cL_law 48 = .ok (.bipush 40, 2) := by decide +kernel
theorem dL_law_50 : decode cL_law 50 = .ok (.invokestatic 91, 3) := by decide +kernel
theorem dL_law_53 : decode cL_law 53 = .ok (.iadd, 1) := by decide +kernel
theorem dL_law_54 : decode cL_law 54 = .ok (.istore 4, 2) := by decide +kernel
theorem dL_law_56 : decode cL_law 56 = .ok (.iconst 0, 1) := by decide +kernel
theorem dL_law_57 : decode cL_law 57 = .ok (.istore 5, 2) := by decide +kernel
theorem dL_law_59 : decode cL_law 59 = .ok (.iload 5, 2) := by decide +kernel
theorem dL_law_61 : decode cL_law 61 = .ok (.iload 4, 2) := by decide +kernel
theorem dL_law_63 : decode cL_law 63 = .ok (.if_icmp .ge 758, 3) := by decide +kernel
theorem dL_law_66 : decode cL_law 66 = .ok (.iload_n 3, 1) := by decide +kernel
theorem dL_law_67 : decode cL_law 67 = .ok (.ifCond .eq 754, 3) := by decide +kernel
theorem dL_law_70 : decode cL_law 70 = .ok (.aload_n 0, 1) := by decide +kernel
theorem dL_law_71 : decode cL_law 71 = .ok (.iconst 1, 1) := by decide +kernel
theorem dL_law_72 : decode cL_law 72 = .ok (.iload 5, 2) := by decide +kernel
theorem dL_law_74 : decode cL_law 74 = .ok (.iadd, 1) := by decide +kernel
theorem dL_law_75 : decode cL_law 75 = .ok (.invokestatic 87, 3) := by decide +kernel
theorem dL_law_78 : decode cL_law 78 = .ok (.istore 6, 2) := by decide +kernel
theorem dL_law_80 : decode cL_law 80 = .ok (.iload 6, 2) := by decide +kernel
theorem dL_law_82 : decode cL_law 82 = .ok (.bipush 20, 2) := by decide +kernel
theorem dL_law_84 : decode cL_law 84 = .ok (.ishr, 1) := by decide +kernel
theorem dL_law_85 : decode cL_law 85 = .ok (.bipush 16, 2) := by decide +kernel
theorem dL_law_87 : decode cL_law 87 = .ok (.invokestatic 91, 3) := by decide +kernel
theorem dL_law_90 : decode cL_law 90 = .ok (.istore 7, 2) := by decide +kernel
theorem dL_law_92 : decode cL_law 92 = .ok (.iload 6, 2) := by decide +kernel
theorem dL_law_94 : decode cL_law 94 = .ok (.iconst 3, 1) := by decide +kernel
theorem dL_law_95 : decode cL_law 95 = .ok (.ishr, 1) := by decide +kernel
theorem dL_law_96 : decode cL_law 96 = .ok (.iconst 4, 1) := by decide +kernel
theorem dL_law_97 : decode cL_law 97 = .ok (.invokestatic 91, 3) := by decide +kernel
theorem dL_law_100 : decode cL_law 100 = .ok (.ifCond .ne 17, 3) := by decide +kernel
theorem dL_law_103 : decode cL_law 103 = .ok (.iconst 1, 1) := by decide +kernel
theorem dL_law_104 : decode cL_law 104 = .ok (.iload 6, 2) := by decide +kernel
theorem dL_law_106 : decode cL_law 106 = .ok (.iconst 5, 1) := by decide +kernel
theorem dL_law_107 : decode cL_law 107 = .ok (.ishr, 1) := by decide +kernel
theorem dL_law_108 : decode cL_law 108 = .ok (.ldc 94, 2) := by decide +kernel
theorem dL_law_110 : decode cL_law 110 = .ok (.invokestatic 91, 3) := by decide +kernel
theorem dL_law_113 : decode cL_law 113 = .ok (.iadd, 1) := by decide +kernel
theorem dL_law_114 : decode cL_law 114 = .ok (.goto 14, 3) := by decide +kernel
theorem dL_law_117 : decode cL_law 117 = .ok (.iconst 1, 1) := by decide +kernel
theorem dL_law_118 : decode cL_law 118 = .ok (.iload 6, 2) := by decide +kernel
theorem dL_law_120 : decode cL_law 120 = .ok (.iconst 5, 1) := by decide +kernel
theorem dL_law_121 : decode cL_law 121 = .ok (.ishr, 1) := by decide +kernel
theorem dL_law_122 : decode cL_law 122 = .ok (.bipush 90, 2) := by decide +kernel
theorem dL_law_124 : decode cL_law 124 = .ok (.invokestatic 91, 3) := by decide +kernel
theorem dL_law_127 : decode cL_law 127 = .ok (.iadd, 1) := by decide +kernel
theorem dL_law_128 : decode cL_law 128 = .ok (.istore 8, 2) := by decide +kernel
theorem dL_law_130 : decode cL_law 130 = .ok (.aload_n 1, 1) := by decide +kernel
theorem dL_law_131 : decode cL_law 131 = .ok (.invokevirtual 21, 3) := by decide +kernel
theorem dL_law_134 : decode cL_law 134 = .ok (.ifCond .ne 7, 3) := by decide +kernel
theorem dL_law_137 : decode cL_law 137 = .ok (.iconst 0, 1) := by decide +kernel
theorem dL_law_138 : decode cL_law 138 = .ok (.goto 15, 3) := by decide +kernel
theorem dL_law_141 : decode cL_law 141 = .ok (.iload 6, 2) := by decide +kernel
theorem dL_law_143 : decode cL_law 143 = .ok (.bipush 7, 2) := by decide +kernel
theorem dL_law_145 : decode cL_law 145 = .ok (.ishr, 1) := by decide +kernel
theorem dL_law_146 : decode cL_law 146 = .ok (.aload_n 1, 1) := by decide +kernel
theorem dL_law_147 : decode cL_law 147 = .ok (.invokevirtual 21, 3) := by decide +kernel
theorem dL_law_150 : decode cL_law 150 = .ok (.invokestatic 91, 3) := by decide +kernel
theorem dL_law_153 : decode cL_law 153 = .ok (.istore 9, 2) := by decide +kernel
theorem dL_law_155 : decode cL_law 155 = .ok (.iload 7, 2) := by decide +kernel
theorem dL_law_157 : decode cL_law 157 = .ok (.iconst 4, 1) := by decide +kernel
theorem dL_law_158 : decode cL_law 158 = .ok (.if_icmp .lt 10, 3) := by decide +kernel
theorem dL_law_161 : decode cL_law 161 = .ok (.aload_n 1, 1) := by decide +kernel
theorem dL_law_162 : decode cL_law 162 = .ok (.invokevirtual 21, 3) := by decide +kernel
theorem dL_law_165 : decode cL_law 165 = .ok (.ifCond .ne 83, 3) := by decide +kernel
theorem dL_law_168 : decode cL_law 168 = .ok (.aload_n 1, 1) := by decide +kernel
theorem dL_law_169 : decode cL_law 169 = .ok (.invokevirtual 21, 3) := by decide +kernel
theorem dL_law_172 : decode cL_law 172 = .ok (.bipush 6, 2) := by decide +kernel
theorem dL_law_174 : decode cL_law 174 = .ok (.if_icmp .ge 74, 3) := by decide +kernel
theorem dL_law_177 : decode cL_law 177 = .ok (.aload_n 1, 1) := by decide +kernel
theorem dL_law_178 : decode cL_law 178 = .ok (.iload 8, 2) := by decide +kernel
theorem dL_law_180 : decode cL_law 180 = .ok (.iconst 1, 1) := by decide +kernel
theorem dL_law_181 : decode cL_law 181 = .ok (.isub, 1) := by decide +kernel
theorem dL_law_182 : decode cL_law 182 = .ok (.iload 6, 2) := by decide +kernel
theorem dL_law_184 : decode cL_law 184 = .ok (.bipush 9, 2) := by decide +kernel
theorem dL_law_186 : decode cL_law 186 = .ok (.ishr, 1) := by decide +kernel
theorem dL_law_187 : decode cL_law 187 = .ok (.sipush 256, 3) := by decide +kernel
theorem dL_law_190 : decode cL_law 190 = .ok (.invokestatic 91, 3) := by decide +kernel
theorem dL_law_193 : decode cL_law 193 = .ok (.iload 6, 2) := by decide +kernel
theorem dL_law_195 : decode cL_law 195 = .ok (.iconst 4, 1) := by decide +kernel
theorem dL_law_196 : decode cL_law 196 = .ok (.ishr, 1) := by decide +kernel
theorem dL_law_197 : decode cL_law 197 = .ok (.iconst 3, 1) := by decide +kernel
theorem dL_law_198 : decode cL_law 198 = .ok (.invokestatic 91, 3) := by decide +kernel
theorem dL_law_201 : decode cL_law 201 = .ok (.ifCond .ne 17, 3) := by decide +kernel
theorem dL_law_204 : decode cL_law 204 = .ok (.iload 6, 2) := by decide +kernel
theorem dL_law_206 : decode cL_law 206 = .ok (.bipush 6, 2) := by decide +kernel
theorem dL_law_208 : decode cL_law 208 = .ok (.ishr, 1) := by decide +kernel
theorem dL_law_209 : decode cL_law 209 = .ok (.sipush 1000, 3) := by decide +kernel
theorem dL_law_212 : decode cL_law 212 = .ok (.invokestatic 91, 3) := by decide +kernel
theorem dL_law_215 : decode cL_law 215 = .ok (.goto 7, 3) := by decide +kernel
theorem dL_law_218 : decode cL_law 218 = .ok (.aload_n 1, 1) := by decide +kernel
theorem dL_law_219 : decode cL_law 219 = .ok (.invokevirtual 46, 3) := by decide +kernel
theorem dL_law_222 : decode cL_law 222 = .ok (.iload 6, 2) := by decide +kernel
theorem dL_law_224 : decode cL_law 224 = .ok (.bipush 11, 2) := by decide +kernel
theorem dL_law_226 : decode cL_law 226 = .ok (.ishr, 1) := by decide +kernel
theorem dL_law_227 : decode cL_law 227 = .ok (.bipush 101, 2) := by decide +kernel
theorem dL_law_229 : decode cL_law 229 = .ok (.invokestatic 91, 3) := by decide +kernel
theorem dL_law_232 : decode cL_law 232 = .ok (.invokevirtual 95, 3) := by decide +kernel
theorem dL_law_235 : decode cL_law 235 = .ok (.istore 10, 2) := by decide +kernel
theorem dL_law_237 : decode cL_law 237 = .ok (.aload_n 2, 1) := by decide +kernel
theorem dL_law_238 : decode cL_law 238 = .ok (.iload 10, 2) := by decide +kernel
theorem dL_law_240 : decode cL_law 240 = .ok (.iload 8, 2) := by decide +kernel
theorem dL_law_242 : decode cL_law 242 = .ok (.iconst 1, 1) := by decide +kernel
theorem dL_law_243 : decode cL_law 243 = .ok (.isub, 1) := by decide +kernel
theorem dL_law_244 : decode cL_law 244 = .ok (.iastore, 1) := by decide +kernel
theorem dL_law_245 : decode cL_law 245 = .ok (.goto 552, 3) := by decide +kernel
theorem dL_law_248 : decode cL_law 248 = .ok (.iload 7, 2) := by decide +kernel
theorem dL_law_250 : decode cL_law 250 = .ok (.iconst 5, 1) := by decide +kernel
theorem dL_law_251 : decode cL_law 251 = .ok (.if_icmp .ge 41, 3) := by decide +kernel
theorem dL_law_254 : decode cL_law 254 = .ok (.aload_n 1, 1) := by decide +kernel
theorem dL_law_255 : decode cL_law 255 = .ok (.invokevirtual 21, 3) := by decide +kernel
theorem dL_law_258 : decode cL_law 258 = .ok (.ifCond .le 34, 3) := by decide +kernel
theorem dL_law_261 : decode cL_law 261 = .ok (.aload_n 2, 1) := by decide +kernel
theorem dL_law_262 : decode cL_law 262 = .ok (.iload 9, 2) := by decide +kernel
theorem dL_law_264 : decode cL_law 264 = .ok (.dup2, 1) := by decide +kernel
theorem dL_law_265 : decode cL_law 265 = .ok (.iaload, 1) := by decide +kernel
theorem dL_law_266 : decode cL_law 266 = .ok (.iload 8, 2) := by decide +kernel
theorem dL_law_268 : decode cL_law 268 = .ok (.iadd, 1) := by decide +kernel
theorem dL_law_269 : decode cL_law 269 = .ok (.iastore, 1) := by decide +kernel
theorem dL_law_270 : decode cL_law 270 = .ok (.aload_n 1, 1) := by decide +kernel
theorem dL_law_271 : decode cL_law 271 = .ok (.iload 9, 2) := by decide +kernel
theorem dL_law_273 : decode cL_law 273 = .ok (.iload 8, 2) := by decide +kernel
theorem dL_law_275 : decode cL_law 275 = .ok (.invokevirtual 98, 3) := by decide +kernel
theorem dL_law_278 : decode cL_law 278 = .ok (.iload 8, 2) := by decide +kernel
theorem dL_law_280 : decode cL_law 280 = .ok (.if_icmp .lt 7, 3) := by decide +kernel
theorem dL_law_283 : decode cL_law 283 = .ok (.iconst 1, 1) := by decide +kernel
theorem dL_law_284 : decode cL_law 284 = .ok (.goto 4, 3) := by decide +kernel
theorem dL_law_287 : decode cL_law 287 = .ok (.iconst 0, 1) := by decide +kernel
theorem dL_law_288 : decode cL_law 288 = .ok (.istore_n 3, 1) := by decide +kernel
theorem dL_law_289 : decode cL_law 289 = .ok (.goto 508, 3) := by decide +kernel
theorem dL_law_292 : decode cL_law 292 = .ok (.iload 7, 2) := by decide +kernel
theorem dL_law_294 : decode cL_law 294 = .ok (.bipush 8, 2) := by decide +kernel
theorem dL_law_296 : decode cL_law 296 = .ok (.if_icmp .ge 162, 3) := by decide +kernel
theorem dL_law_299 : decode cL_law 299 = .ok (.aload_n 1, 1) := by decide +kernel
theorem dL_law_300 : decode cL_law 300 = .ok (.invokevirtual 21, 3) := by decide +kernel
theorem dL_law_303 : decode cL_law 303 = .ok (.ifCond .le 155, 3) := by decide +kernel
theorem dL_law_306 : decode cL_law 306 = .ok (.aload_n 1, 1) := by decide +kernel
theorem dL_law_307 : decode cL_law 307 = .ok (.invokevirtual 46, 3) := by decide +kernel
theorem dL_law_310 : decode cL_law 310 = .ok (.iload 6, 2) := by decide +kernel
theorem dL_law_312 : decode cL_law 312 = .ok (.iconst 2, 1) := by decide +kernel
theorem dL_law_313 : decode cL_law 313 = .ok (.ishr, 1) := by decide +kernel
theorem dL_law_314 : decode cL_law 314 = .ok (.bipush 40, 2) := by decide +kernel
theorem dL_law_316 : decode cL_law 316 = .ok (.invokestatic 91, 3) := by decide +kernel
theorem dL_law_319 : decode cL_law 319 = .ok (.iadd, 1) := by decide +kernel
theorem dL_law_320 : decode cL_law 320 = .ok (.istore 10, 2) := by decide +kernel
theorem dL_law_322 : decode cL_law 322 = .ok (.aload_n 1, 1) := by decide +kernel
theorem dL_law_323 : decode cL_law 323 = .ok (.invokevirtual 17, 3) := by decide +kernel
theorem dL_law_326 : decode cL_law 326 = .ok (.istore 11, 2) := by decide +kernel
theorem dL_law_328 : decode cL_law 328 = .ok (.aload_n 1, 1) := by decide +kernel
theorem dL_law_329 : decode cL_law 329 = .ok (.iload 9, 2) := by decide +kernel
theorem dL_law_331 : decode cL_law 331 = .ok (.invokevirtual 28, 3) := by decide +kernel
theorem dL_law_334 : decode cL_law 334 = .ok (.istore 12, 2) := by decide +kernel
theorem dL_law_336 : decode cL_law 336 = .ok (.aload_n 1, 1) := by decide +kernel
theorem dL_law_337 : decode cL_law 337 = .ok (.iload 9, 2) := by decide +kernel
theorem dL_law_339 : decode cL_law 339 = .ok (.iload 6, 2) := by decide +kernel
theorem dL_law_341 : decode cL_law 341 = .ok (.bipush 8, 2) := by decide +kernel
theorem dL_law_343 : decode cL_law 343 = .ok (.invokestatic 91, 3) := by decide +kernel
theorem dL_law_346 : decode cL_law 346 = .ok (.iload 8, 2) := by decide +kernel
theorem dL_law_348 : decode cL_law 348 = .ok (.iload 10, 2) := by decide +kernel
theorem dL_law_350 : decode cL_law 350 = .ok (.sipush 999, 3) := by decide +kernel
theorem dL_law_353 : decode cL_law 353 = .ok (.if_icmp .le 9, 3) := by decide +kernel
theorem dL_law_356 : decode cL_law 356 = .ok (.sipush 999, 3) := by decide +kernel
theorem dL_law_359 : decode cL_law 359 = .ok (.goto 5, 3) := by decide +kernel
theorem dL_law_362 : decode cL_law 362 = .ok (.iload 10, 2) := by decide +kernel
theorem dL_law_364 : decode cL_law 364 = .ok (.invokestatic 101, 3) := by decide +kernel
theorem dL_law_367 : decode cL_law 367 = .ok (.istore 13, 2) := by decide +kernel
theorem dL_law_369 : decode cL_law 369 = .ok (.iload 13, 2) := by decide +kernel
theorem dL_law_371 : decode cL_law 371 = .ok (.bipush (-3), 2) := by decide +kernel
theorem dL_law_373 : decode cL_law 373 = .ok (.if_icmp .ne 31, 3) := by decide +kernel
theorem dL_law_376 : decode cL_law 376 = .ok (.aload_n 1, 1) := by decide +kernel
theorem dL_law_377 : decode cL_law 377 = .ok (.invokevirtual 17, 3) := by decide +kernel
theorem dL_law_380 : decode cL_law 380 = .ok (.iload 11, 2) := by decide +kernel
theorem dL_law_382 : decode cL_law 382 = .ok (.if_icmp .ne 18, 3) := by decide +kernel
theorem dL_law_385 : decode cL_law 385 = .ok (.aload_n 1, 1) := by decide +kernel
theorem dL_law_386 : decode cL_law 386 = .ok (.iload 9, 2) := by decide +kernel
theorem dL_law_388 : decode cL_law 388 = .ok (.invokevirtual 28, 3) := by decide +kernel
theorem dL_law_391 : decode cL_law 391 = .ok (.iload 12, 2) := by decide +kernel
theorem dL_law_393 : decode cL_law 393 = .ok (.if_icmp .ne 7, 3) := by decide +kernel
theorem dL_law_396 : decode cL_law 396 = .ok (.iconst 1, 1) := by decide +kernel
theorem dL_law_397 : decode cL_law 397 = .ok (.goto 57, 3) := by decide +kernel
theorem dL_law_400 : decode cL_law 400 = .ok (.iconst 0, 1) := by decide +kernel
theorem dL_law_401 : decode cL_law 401 = .ok (.goto 53, 3) := by decide +kernel
theorem dL_law_404 : decode cL_law 404 = .ok (.iload 13, 2) := by decide +kernel
theorem dL_law_406 : decode cL_law 406 = .ok (.iload 11, 2) := by decide +kernel
theorem dL_law_408 : decode cL_law 408 = .ok (.iconst 1, 1) := by decide +kernel
theorem dL_law_409 : decode cL_law 409 = .ok (.iadd, 1) := by decide +kernel
theorem dL_law_410 : decode cL_law 410 = .ok (.if_icmp .ne 43, 3) := by decide +kernel
theorem dL_law_413 : decode cL_law 413 = .ok (.aload_n 1, 1) := by decide +kernel
theorem dL_law_414 : decode cL_law 414 = .ok (.iload 9, 2) := by decide +kernel
theorem dL_law_416 : decode cL_law 416 = .ok (.invokevirtual 28, 3) := by decide +kernel
theorem dL_law_419 : decode cL_law 419 = .ok (.iload 12, 2) := by decide +kernel
theorem dL_law_421 : decode cL_law 421 = .ok (.iload 8, 2) := by decide +kernel
theorem dL_law_423 : decode cL_law 423 = .ok (.isub, 1) := by decide +kernel
theorem dL_law_424 : decode cL_law 424 = .ok (.if_icmp .ne 29, 3) := by decide +kernel
theorem dL_law_427 : decode cL_law 427 = .ok (.aload_n 1, 1) := by decide +kernel
theorem dL_law_428 : decode cL_law 428 = .ok (.iload 11, 2) := by decide +kernel
theorem dL_law_430 : decode cL_law 430 = .ok (.invokevirtual 40, 3) := by decide +kernel
theorem dL_law_433 : decode cL_law 433 = .ok (.iload 8, 2) := by decide +kernel
theorem dL_law_435 : decode cL_law 435 = .ok (.if_icmp .ne 18, 3) := by decide +kernel
theorem dL_law_438 : decode cL_law 438 = .ok (.aload_n 1, 1) := by decide +kernel
theorem dL_law_439 : decode cL_law 439 = .ok (.iload 11, 2) := by decide +kernel
theorem dL_law_441 : decode cL_law 441 = .ok (.invokevirtual 49, 3) := by decide +kernel
theorem dL_law_444 : decode cL_law 444 = .ok (.iload 9, 2) := by decide +kernel
theorem dL_law_446 : decode cL_law 446 = .ok (.if_icmp .ne 7, 3) := by decide +kernel
theorem dL_law_449 : decode cL_law 449 = .ok (.iconst 1, 1) := by decide +kernel
theorem dL_law_450 : decode cL_law 450 = .ok (.goto 4, 3) := by decide +kernel
theorem dL_law_453 : decode cL_law 453 = .ok (.iconst 0, 1) := by decide +kernel
theorem dL_law_454 : decode cL_law 454 = .ok (.istore_n 3, 1) := by decide +kernel
theorem dL_law_455 : decode cL_law 455 = .ok (.goto 342, 3) := by decide +kernel
theorem dL_law_458 : decode cL_law 458 = .ok (.iload 7, 2) := by decide +kernel
theorem dL_law_460 : decode cL_law 460 = .ok (.bipush 11, 2) := by decide +kernel
theorem dL_law_462 : decode cL_law 462 = .ok (.if_icmp .ge 53, 3) := by decide +kernel
theorem dL_law_465 : decode cL_law 465 = .ok (.aload_n 1, 1) := by decide +kernel
theorem dL_law_466 : decode cL_law 466 = .ok (.invokevirtual 52, 3) := by decide +kernel
theorem dL_law_469 : decode cL_law 469 = .ok (.bipush 16, 2) := by decide +kernel
theorem dL_law_471 : decode cL_law 471 = .ok (.if_icmp .ge 44, 3) := by decide +kernel
theorem dL_law_474 : decode cL_law 474 = .ok (.aload_n 1, 1) := by decide +kernel
theorem dL_law_475 : decode cL_law 475 = .ok (.iload 6, 2) := by decide +kernel
theorem dL_law_477 : decode cL_law 477 = .ok (.bipush 8, 2) := by decide +kernel
theorem dL_law_479 : decode cL_law 479 = .ok (.invokestatic 91, 3) := by decide +kernel
theorem dL_law_482 : decode cL_law 482 = .ok (.iload 6, 2) := by decide +kernel
theorem dL_law_484 : decode cL_law 484 = .ok (.bipush 6, 2) := by decide +kernel
theorem dL_law_486 : decode cL_law 486 = .ok (.ishr, 1) := by decide +kernel
theorem dL_law_487 : decode cL_law 487 = .ok (.aload_n 1, 1) := by decide +kernel
theorem dL_law_488 : decode cL_law 488 = .ok (.invokevirtual 46, 3) := by decide +kernel
theorem dL_law_491 : decode cL_law 491 = .ok (.iconst 1, 1) := by decide +kernel
theorem dL_law_492 : decode cL_law 492 = .ok (.iadd, 1) := by decide +kernel
theorem dL_law_493 : decode cL_law 493 = .ok (.invokestatic 91, 3) := by decide +kernel
theorem dL_law_496 : decode cL_law 496 = .ok (.iload 8, 2) := by decide +kernel
theorem dL_law_498 : decode cL_law 498 = .ok (.invokevirtual 104, 3) := by decide +kernel
theorem dL_law_501 : decode cL_law 501 = .ok (.istore 10, 2) := by decide +kernel
theorem dL_law_503 : decode cL_law 503 = .ok (.aload_n 2, 1) := by decide +kernel
theorem dL_law_504 : decode cL_law 504 = .ok (.bipush 16, 2) := by decide +kernel
theorem dL_law_506 : decode cL_law 506 = .ok (.iload 10, 2) := by decide +kernel
theorem dL_law_508 : decode cL_law 508 = .ok (.iadd, 1) := by decide +kernel
theorem dL_law_509 : decode cL_law 509 = .ok (.iload 8, 2) := by decide +kernel
theorem dL_law_511 : decode cL_law 511 = .ok (.iastore, 1) := by decide +kernel
theorem dL_law_512 : decode cL_law 512 = .ok (.goto 285, 3) := by decide +kernel
theorem dL_law_515 : decode cL_law 515 = .ok (.iload 7, 2) := by decide +kernel
theorem dL_law_517 : decode cL_law 517 = .ok (.bipush 13, 2) := by decide +kernel
theorem dL_law_519 : decode cL_law 519 = .ok (.if_icmp .ge 11, 3) := by decide +kernel
theorem dL_law_522 : decode cL_law 522 = .ok (.aload_n 1, 1) := by decide +kernel
theorem dL_law_523 : decode cL_law 523 = .ok (.invokestatic 108, 3) := by decide +kernel
theorem dL_law_526 : decode cL_law 526 = .ok (.istore_n 3, 1) := by decide +kernel
theorem dL_law_527 : decode cL_law 527 = .ok (.goto 270, 3) := by decide +kernel
theorem dL_law_530 : decode cL_law 530 = .ok (.iload 7, 2) := by decide +kernel
theorem dL_law_532 : decode cL_law 532 = .ok (.bipush 14, 2) := by decide +kernel
theorem dL_law_534 : decode cL_law 534 = .ok (.if_icmp .ge 32, 3) := by decide +kernel
theorem dL_law_537 : decode cL_law 537 = .ok (.aload_n 1, 1) := by decide +kernel
theorem dL_law_538 : decode cL_law 538 = .ok (.iload 8, 2) := by decide +kernel
theorem dL_law_540 : decode cL_law 540 = .ok (.invokevirtual 84, 3) := by decide +kernel
theorem dL_law_543 : decode cL_law 543 = .ok (.istore 10, 2) := by decide +kernel
theorem dL_law_545 : decode cL_law 545 = .ok (.iload 10, 2) := by decide +kernel
theorem dL_law_547 : decode cL_law 547 = .ok (.ifCond .lt 14, 3) := by decide +kernel
theorem dL_law_550 : decode cL_law 550 = .ok (.iload 10, 2) := by decide +kernel
theorem dL_law_552 : decode cL_law 552 = .ok (.iload 8, 2) := by decide +kernel
theorem dL_law_554 : decode cL_law 554 = .ok (.if_icmp .gt 7, 3) := by decide +kernel
theorem dL_law_557 : decode cL_law 557 = .ok (.iconst 1, 1) := by decide +kernel
theorem dL_law_558 : decode cL_law 558 = .ok (.goto 4, 3) := by decide +kernel
theorem dL_law_561 : decode cL_law 561 = .ok (.iconst 0, 1) := by decide +kernel
theorem dL_law_562 : decode cL_law 562 = .ok (.istore_n 3, 1) := by decide +kernel
theorem dL_law_563 : decode cL_law 563 = .ok (.goto 234, 3) := by decide +kernel
theorem dL_law_566 : decode cL_law 566 = .ok (.iload 7, 2) := by decide +kernel
theorem dL_law_568 : decode cL_law 568 = .ok (.bipush 15, 2) := by decide +kernel
theorem dL_law_570 : decode cL_law 570 = .ok (.if_icmp .ge 98, 3) := by decide +kernel
theorem dL_law_573 : decode cL_law 573 = .ok (.aload_n 1, 1) := by decide +kernel
theorem dL_law_574 : decode cL_law 574 = .ok (.invokevirtual 17, 3) := by decide +kernel
theorem dL_law_577 : decode cL_law 577 = .ok (.ifCond .le 91, 3) := by decide +kernel
theorem dL_law_580 : decode cL_law 580 = .ok (.iload 6, 2) := by decide +kernel
theorem dL_law_582 : decode cL_law 582 = .ok (.iconst 4, 1) := by decide +kernel
theorem dL_law_583 : decode cL_law 583 = .ok (.ishr, 1) := by decide +kernel
theorem dL_law_584 : decode cL_law 584 = .ok (.aload_n 1, 1) := by decide +kernel
theorem dL_law_585 : decode cL_law 585 = .ok (.invokevirtual 17, 3) := by decide +kernel
theorem dL_law_588 : decode cL_law 588 = .ok (.invokestatic 91, 3) := by decide +kernel
theorem dL_law_591 : decode cL_law 591 = .ok (.istore 10, 2) := by decide +kernel
theorem dL_law_593 : decode cL_law 593 = .ok (.aload_n 1, 1) := by decide +kernel
theorem dL_law_594 : decode cL_law 594 = .ok (.invokevirtual 17, 3) := by decide +kernel
theorem dL_law_597 : decode cL_law 597 = .ok (.istore 11, 2) := by decide +kernel
theorem dL_law_599 : decode cL_law 599 = .ok (.aload_n 1, 1) := by decide +kernel
theorem dL_law_600 : decode cL_law 600 = .ok (.iload 10, 2) := by decide +kernel
theorem dL_law_602 : decode cL_law 602 = .ok (.invokevirtual 49, 3) := by decide +kernel
theorem dL_law_605 : decode cL_law 605 = .ok (.istore 12, 2) := by decide +kernel
theorem dL_law_607 : decode cL_law 607 = .ok (.aload_n 1, 1) := by decide +kernel
theorem dL_law_608 : decode cL_law 608 = .ok (.iload 12, 2) := by decide +kernel
theorem dL_law_610 : decode cL_law 610 = .ok (.invokevirtual 28, 3) := by decide +kernel
theorem dL_law_613 : decode cL_law 613 = .ok (.istore 13, 2) := by decide +kernel
theorem dL_law_615 : decode cL_law 615 = .ok (.aload_n 1, 1) := by decide +kernel
theorem dL_law_616 : decode cL_law 616 = .ok (.iload 10, 2) := by decide +kernel
theorem dL_law_618 : decode cL_law 618 = .ok (.invokevirtual 40, 3) := by decide +kernel
theorem dL_law_621 : decode cL_law 621 = .ok (.istore 14, 2) := by decide +kernel
theorem dL_law_623 : decode cL_law 623 = .ok (.aload_n 1, 1) := by decide +kernel
theorem dL_law_624 : decode cL_law 624 = .ok (.iload 10, 2) := by decide +kernel
theorem dL_law_626 : decode cL_law 626 = .ok (.invokevirtual 112, 3) := by decide +kernel
theorem dL_law_629 : decode cL_law 629 = .ok (.iload 14, 2) := by decide +kernel
theorem dL_law_631 : decode cL_law 631 = .ok (.if_icmp .ne 32, 3) := by decide +kernel
theorem dL_law_634 : decode cL_law 634 = .ok (.aload_n 1, 1) := by decide +kernel
theorem dL_law_635 : decode cL_law 635 = .ok (.invokevirtual 17, 3) := by decide +kernel
theorem dL_law_638 : decode cL_law 638 = .ok (.iload 11, 2) := by decide +kernel
theorem dL_law_640 : decode cL_law 640 = .ok (.iconst 1, 1) := by decide +kernel
theorem dL_law_641 : decode cL_law 641 = .ok (.isub, 1) := by decide +kernel
theorem dL_law_642 : decode cL_law 642 = .ok (.if_icmp .ne 21, 3) := by decide +kernel
theorem dL_law_645 : decode cL_law 645 = .ok (.aload_n 1, 1) := by decide +kernel
theorem dL_law_646 : decode cL_law 646 = .ok (.iload 12, 2) := by decide +kernel
theorem dL_law_648 : decode cL_law 648 = .ok (.invokevirtual 28, 3) := by decide +kernel
theorem dL_law_651 : decode cL_law 651 = .ok (.iload 13, 2) := by decide +kernel
theorem dL_law_653 : decode cL_law 653 = .ok (.iload 14, 2) := by decide +kernel
theorem dL_law_655 : decode cL_law 655 = .ok (.iadd, 1) := by decide +kernel
theorem dL_law_656 : decode cL_law 656 = .ok (.if_icmp .ne 7, 3) := by decide +kernel
theorem dL_law_659 : decode cL_law 659 = .ok (.iconst 1, 1) := by decide +kernel
theorem dL_law_660 : decode cL_law 660 = .ok (.goto 4, 3) := by decide +kernel
theorem dL_law_663 : decode cL_law 663 = .ok (.iconst 0, 1) := by decide +kernel
theorem dL_law_664 : decode cL_law 664 = .ok (.istore_n 3, 1) := by decide +kernel
theorem dL_law_665 : decode cL_law 665 = .ok (.goto 132, 3) := by decide +kernel
theorem dL_law_668 : decode cL_law 668 = .ok (.aload_n 1, 1) := by decide +kernel
theorem dL_law_669 : decode cL_law 669 = .ok (.invokevirtual 46, 3) := by decide +kernel
theorem dL_law_672 : decode cL_law 672 = .ok (.sipush 999, 3) := by decide +kernel
theorem dL_law_675 : decode cL_law 675 = .ok (.if_icmp .ge 122, 3) := by decide +kernel
theorem dL_law_678 : decode cL_law 678 = .ok (.iconst 1, 1) := by decide +kernel
theorem dL_law_679 : decode cL_law 679 = .ok (.iload 6, 2) := by decide +kernel
theorem dL_law_681 : decode cL_law 681 = .ok (.bipush 20, 2) := by decide +kernel
theorem dL_law_683 : decode cL_law 683 = .ok (.invokestatic 91, 3) := by decide +kernel
theorem dL_law_686 : decode cL_law 686 = .ok (.iadd, 1) := by decide +kernel
theorem dL_law_687 : decode cL_law 687 = .ok (.istore 10, 2) := by decide +kernel
theorem dL_law_689 : decode cL_law 689 = .ok (.aload_n 1, 1) := by decide +kernel
theorem dL_law_690 : decode cL_law 690 = .ok (.invokevirtual 46, 3) := by decide +kernel
theorem dL_law_693 : decode cL_law 693 = .ok (.iload 10, 2) := by decide +kernel
theorem dL_law_695 : decode cL_law 695 = .ok (.iadd, 1) := by decide +kernel
theorem dL_law_696 : decode cL_law 696 = .ok (.sipush 999, 3) := by decide +kernel
theorem dL_law_699 : decode cL_law 699 = .ok (.if_icmp .le 14, 3) := by decide +kernel
theorem dL_law_702 : decode cL_law 702 = .ok (.sipush 999, 3) := by decide +kernel
theorem dL_law_705 : decode cL_law 705 = .ok (.aload_n 1, 1) := by decide +kernel
theorem dL_law_706 : decode cL_law 706 = .ok (.invokevirtual 46, 3) := by decide +kernel
theorem dL_law_709 : decode cL_law 709 = .ok (.isub, 1) := by decide +kernel
theorem dL_law_710 : decode cL_law 710 = .ok (.goto 5, 3) := by decide +kernel
theorem dL_law_713 : decode cL_law 713 = .ok (.iload 10, 2) := by decide +kernel
theorem dL_law_715 : decode cL_law 715 = .ok (.istore 10, 2) := by decide +kernel
theorem dL_law_717 : decode cL_law 717 = .ok (.aload_n 1, 1) := by decide +kernel
theorem dL_law_718 : decode cL_law 718 = .ok (.invokevirtual 17, 3) := by decide +kernel
theorem dL_law_721 : decode cL_law 721 = .ok (.istore 11, 2) := by decide +kernel
theorem dL_law_723 : decode cL_law 723 = .ok (.iconst 0, 1) := by decide +kernel
theorem dL_law_724 : decode cL_law 724 = .ok (.istore 12, 2) := by decide +kernel
theorem dL_law_726 : decode cL_law 726 = .ok (.iconst 0, 1) := by decide +kernel
theorem dL_law_727 : decode cL_law 727 = .ok (.istore 13, 2) := by decide +kernel
theorem dL_law_729 : decode cL_law 729 = .ok (.iload 13, 2) := by decide +kernel
theorem dL_law_731 : decode cL_law 731 = .ok (.iload 11, 2) := by decide +kernel
theorem dL_law_733 : decode cL_law 733 = .ok (.if_icmp .ge 35, 3) := by decide +kernel
theorem dL_law_736 : decode cL_law 736 = .ok (.iload 12, 2) := by decide +kernel
theorem dL_law_738 : decode cL_law 738 = .ok (.aload_n 1, 1) := by decide +kernel
theorem dL_law_739 : decode cL_law 739 = .ok (.iload 13, 2) := by decide +kernel
theorem dL_law_741 : decode cL_law 741 = .ok (.invokevirtual 43, 3) := by decide +kernel
theorem dL_law_744 : decode cL_law 744 = .ok (.aload_n 1, 1) := by decide +kernel
theorem dL_law_745 : decode cL_law 745 = .ok (.invokevirtual 46, 3) := by decide +kernel
theorem dL_law_748 : decode cL_law 748 = .ok (.iload 10, 2) := by decide +kernel
theorem dL_law_750 : decode cL_law 750 = .ok (.iadd, 1) := by decide +kernel
theorem dL_law_751 : decode cL_law 751 = .ok (.if_icmp .ge 7, 3) := by decide +kernel
theorem dL_law_754 : decode cL_law 754 = .ok (.iconst 1, 1) := by decide +kernel
theorem dL_law_755 : decode cL_law 755 = .ok (.goto 4, 3) := by decide +kernel
theorem dL_law_758 : decode cL_law 758 = .ok (.iconst 0, 1) := by decide +kernel
theorem dL_law_759 : decode cL_law 759 = .ok (.iadd, 1) := by decide +kernel
theorem dL_law_760 : decode cL_law 760 = .ok (.istore 12, 2) := by decide +kernel
theorem dL_law_762 : decode cL_law 762 = .ok (.iinc 13 1, 3) := by decide +kernel
theorem dL_law_765 : decode cL_law 765 = .ok (.goto (-36), 3) := by decide +kernel
theorem dL_law_768 : decode cL_law 768 = .ok (.aload_n 1, 1) := by decide +kernel
theorem dL_law_769 : decode cL_law 769 = .ok (.iload 10, 2) := by decide +kernel
theorem dL_law_771 : decode cL_law 771 = .ok (.invokevirtual 115, 3) := by decide +kernel
theorem dL_law_774 : decode cL_law 774 = .ok (.iload 12, 2) := by decide +kernel
theorem dL_law_776 : decode cL_law 776 = .ok (.if_icmp .ne 19, 3) := by decide +kernel
theorem dL_law_779 : decode cL_law 779 = .ok (.aload_n 1, 1) := by decide +kernel
theorem dL_law_780 : decode cL_law 780 = .ok (.invokevirtual 17, 3) := by decide +kernel
theorem dL_law_783 : decode cL_law 783 = .ok (.iload 11, 2) := by decide +kernel
theorem dL_law_785 : decode cL_law 785 = .ok (.iload 12, 2) := by decide +kernel
theorem dL_law_787 : decode cL_law 787 = .ok (.isub, 1) := by decide +kernel
theorem dL_law_788 : decode cL_law 788 = .ok (.if_icmp .ne 7, 3) := by decide +kernel
theorem dL_law_791 : decode cL_law 791 = .ok (.iconst 1, 1) := by decide +kernel
theorem dL_law_792 : decode cL_law 792 = .ok (.goto 4, 3) := by decide +kernel
theorem dL_law_795 : decode cL_law 795 = .ok (.iconst 0, 1) := by decide +kernel
theorem dL_law_796 : decode cL_law 796 = .ok (.istore_n 3, 1) := by decide +kernel
theorem dL_law_797 : decode cL_law 797 = .ok (.iload_n 3, 1) := by decide +kernel
theorem dL_law_798 : decode cL_law 798 = .ok (.ifCond .eq 15, 3) := by decide +kernel
theorem dL_law_801 : decode cL_law 801 = .ok (.aload_n 1, 1) := by decide +kernel
theorem dL_law_802 : decode cL_law 802 = .ok (.aload_n 2, 1) := by decide +kernel
theorem dL_law_803 : decode cL_law 803 = .ok (.invokestatic 78, 3) := by decide +kernel
theorem dL_law_806 : decode cL_law 806 = .ok (.ifCond .eq 7, 3) := by decide +kernel
theorem dL_law_809 : decode cL_law 809 = .ok (.iconst 1, 1) := by decide +kernel
theorem dL_law_810 : decode cL_law 810 = .ok (.goto 4, 3) := by decide +kernel
theorem dL_law_813 : decode cL_law 813 = .ok (.iconst 0, 1) := by decide +kernel
theorem dL_law_814 : decode cL_law 814 = .ok (.istore_n 3, 1) := by decide +kernel
theorem dL_law_815 : decode cL_law 815 = .ok (.iinc 5 1, 3) := by decide +kernel
theorem dL_law_818 : decode cL_law 818 = .ok (.goto (-759), 3) := by decide +kernel
theorem dL_law_821 : decode cL_law 821 = .ok (.iload_n 3, 1) := by decide +kernel
theorem dL_law_822 : decode cL_law 822 = .ok (.ifCond .eq 22, 3) := by decide +kernel
theorem dL_law_825 : decode cL_law 825 = .ok (.aload_n 1, 1) := by decide +kernel
theorem dL_law_826 : decode cL_law 826 = .ok (.invokestatic 108, 3) := by decide +kernel
theorem dL_law_829 : decode cL_law 829 = .ok (.ifCond .eq 15, 3) := by decide +kernel
theorem dL_law_832 : decode cL_law 832 = .ok (.aload_n 1, 1) := by decide +kernel
theorem dL_law_833 : decode cL_law 833 = .ok (.aload_n 2, 1) := by decide +kernel
theorem dL_law_834 : decode cL_law 834 = .ok (.invokestatic 78, 3) := by decide +kernel
theorem dL_law_837 : decode cL_law 837 = .ok (.ifCond .eq 7, 3) := by decide +kernel
theorem dL_law_840 : decode cL_law 840 = .ok (.iconst 1, 1) := by decide +kernel
theorem dL_law_841 : decode cL_law 841 = .ok (.goto 4, 3) := by decide +kernel
theorem dL_law_844 : decode cL_law 844 = .ok (.iconst 0, 1) := by decide +kernel
theorem dL_law_845 : decode cL_law 845 = .ok (.ireturn, 1) := by decide +kernel
