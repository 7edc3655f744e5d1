theorem dL_law_0 : decode cL_law 0 = .ok (.new 20, 3) := by decide +kernel
theorem dL_law_3 : decode cL_law 3 = .ok (.dup, 1) := by decide +kernel
theorem dL_law_4 : decode cL_law 4 = .ok (.invokespecial 55, 3) := by decide +kernel
theorem dL_law_7 : decode cL_law 7 = .ok (.astore_n 1, 1) := by decide +kernel
theorem dL_law_8 : decode cL_law 8 = .ok (.bipush 48, 2) := by decide +kernel
theorem dL_law_10 : decode cL_law 10 = .ok (.newarray .int, 2) := by decide +kernel
theorem dL_law_12 : decode cL_law 12 = .ok (.astore_n 2, 1) := by decide +kernel
theorem dL_law_13 : decode cL_law 13 = .ok (.bipush 30, 2) := by decide +kernel
theorem dL_law_15 : decode cL_law 15 = .ok (.newarray .int, 2) := by decide +kernel
theorem dL_law_17 : decode cL_law 17 = .ok (.astore_n 3, 1) := by decide +kernel
theorem dL_law_18 : decode cL_law 18 = .ok (.bipush 30, 2) := by decide +kernel
theorem dL_law_20 : decode cL_law 20 = .ok (.newarray .int, 2) := by decide +kernel
theorem dL_law_22 : decode cL_law 22 = .ok (.astore 4, 2) := by decide +kernel
theorem dL_law_24 : decode cL_law 24 = .ok (.bipush 30, 2) := by decide +kernel
theorem dL_law_26 : decode cL_law 26 = .ok (.newarray .int, 2) := by decide +kernel
theorem dL_law_28 : decode cL_law 28 = .ok (.astore 5, 2) := by decide +kernel
theorem dL_law_30 : decode cL_law 30 = .ok (.aload_n 1, 1) := by decide +kernel
theorem dL_law_31 : decode cL_law 31 = .ok (.aload_n 0, 1) := by decide +kernel
theorem dL_law_32 : decode cL_law 32 = .ok (.iconst 0, 1) := by decide +kernel
theorem dL_law_33 : decode cL_law 33 = .ok (.bipush 6, 2) := by decide +kernel
theorem dL_law_35 : decode cL_law 35 = .ok (.aload_n 2, 1) := by decide +kernel
theorem dL_law_36 : decode cL_law 36 = .ok (.aload_n 3, 1) := by decide +kernel
theorem dL_law_37 : decode cL_law 37 = .ok (.aload 4, 2) := by decide +kernel
theorem dL_law_39 : decode cL_law 39 = .ok (.aload 5, 2) := by decide +kernel
theorem dL_law_41 : decode cL_law 41 = .ok (.invokestatic 56, 3) := by decide +kernel
theorem dL_law_44 : decode cL_law 44 = .ok (.istore 6, 2) := by decide +kernel
theorem dL_law_46 : decode cL_law 46 = .ok (.iload 6, 2) := by decide +kernel
theorem dL_law_48 : decode cL_law 48 = .ok (.bipush 8, 2) := by decide +kernel
theorem dL_law_50 : decode cL_law 50 = .ok (.if_icmp .lt 18, 3) := by decide +kernel
theorem dL_law_53 : decode cL_law 53 = .ok (.aload_n 1, 1) := by decide +kernel
theorem dL_law_54 : decode cL_law 54 = .ok (.iconst 0, 1) := by decide +kernel
theorem dL_law_55 : decode cL_law 55 = .ok (.iconst 0, 1) := by decide +kernel
theorem dL_law_56 : decode cL_law 56 = .ok (.iconst 0, 1) := by decide +kernel
theorem dL_law_57 : decode cL_law 57 = .ok (.iload 6, 2) := by decide +kernel
theorem dL_law_59 : decode cL_law 59 = .ok (.invokevirtual 59, 3) := by decide +kernel
theorem dL_law_62 : decode cL_law 62 = .ok (.aload_n 2, 1) := by decide +kernel
theorem dL_law_63 : decode cL_law 63 = .ok (.iconst 0, 1) := by decide +kernel
theorem dL_law_64 : decode cL_law 64 = .ok (.iaload, 1) := by decide +kernel
theorem dL_law_65 : decode cL_law 65 = .ok (.if_icmp .eq 5, 3) := by decide +kernel
theorem dL_law_68 : decode cL_law 68 = .ok (.iconst 0, 1) := by decide +kernel
theorem dL_law_69 : decode cL_law 69 = .ok (.ireturn, 1) := by decide +kernel
theorem dL_law_70 : decode cL_law 70 = .ok (.bipush 18, 2) := by decide +kernel
theorem dL_law_72 : decode cL_law 72 = .ok (.newarray .int, 2) := by decide +kernel
theorem dL_law_74 : decode cL_law 74 = .ok (.astore 7, 2) := by decide +kernel
theorem dL_law_76 : decode cL_law 76 = .ok (.iconst 0, 1) := by decide +kernel
theorem dL_law_77 : decode cL_law 77 = .ok (.istore 8, 2) := by decide +kernel
theorem dL_law_79 : decode cL_law 79 = .ok (.iload 8, 2) := by decide +kernel
theorem dL_law_81 : decode cL_law 81 = .ok (.iconst 4, 1) := by decide +kernel
theorem dL_law_82 : decode cL_law 82 = .ok (.if_icmp .ge 546, 3) := by decide +kernel
theorem dL_law_85 : decode cL_law 85 = .ok (.aload_n 1, 1) := by decide +kernel
theorem dL_law_86 : decode cL_law 86 = .ok (.aload_n 0, 1) := by decide +kernel
theorem dL_law_87 : decode cL_law 87 = .ok (.iconst 4, 1) := by decide +kernel
theorem dL_law_88 : decode cL_law 88 = .ok (.iload 8, 2) := by decide +kernel
theorem dL_law_90 : decode cL_law 90 = .ok (.iadd, 1) := by decide +kernel
theorem dL_law_91 : decode cL_law 91 = .ok (.invokestatic 9, 3) := by decide +kernel
theorem dL_law_94 : decode cL_law 94 = .ok (.aload_n 0, 1) := by decide +kernel
theorem dL_law_95 : decode cL_law 95 = .ok (.bipush 8, 2) := by decide +kernel
theorem dL_law_97 : decode cL_law 97 = .ok (.iload 8, 2) := by decide +kernel
theorem dL_law_99 : decode cL_law 99 = .ok (.iadd, 1) := by decide +kernel
theorem dL_law_100 : decode cL_law 100 = .ok (.invokestatic 9, 3) := by decide +kernel
theorem dL_law_103 : decode cL_law 103 = .ok (.aload_n 2, 1) := by decide +kernel
theorem dL_law_104 : decode cL_law 104 = .ok (.aload_n 3, 1) := by decide +kernel
theorem dL_law_105 : decode cL_law 105 = .ok (.aload 4, 2) := by decide +kernel
theorem dL_law_107 : decode cL_law 107 = .ok (.aload 5, 2) := by decide +kernel
theorem dL_law_109 : decode cL_law 109 = .ok (.invokestatic 63, 3) := by decide +kernel
theorem dL_law_112 : decode cL_law 112 = .ok (.ifCond .ne 5, 3) := by decide +kernel
theorem dL_law_115 : decode cL_law 115 = .ok (.iconst 0, 1) := by decide +kernel
theorem dL_law_116 : decode cL_law 116 = .ok (.ireturn, 1) := by decide +kernel
theorem dL_law_117 : decode cL_law 117 = .ok (.iconst 0, 1) := by decide +kernel
theorem dL_law_118 : decode cL_law 118 = .ok (.istore 9, 2) := by decide +kernel
theorem dL_law_120 : decode cL_law 120 = .ok (.iload 9, 2) := by decide +kernel
theorem dL_law_122 : decode cL_law 122 = .ok (.aload_n 2, 1) := by decide +kernel
theorem dL_law_123 : decode cL_law 123 = .ok (.iconst 0, 1) := by decide +kernel
theorem dL_law_124 : decode cL_law 124 = .ok (.iaload, 1) := by decide +kernel
theorem dL_law_125 : decode cL_law 125 = .ok (.if_icmp .ge 147, 3) := by decide +kernel
theorem dL_law_128 : decode cL_law 128 = .ok (.iconst 0, 1) := by decide +kernel
theorem dL_law_129 : decode cL_law 129 = .ok (.istore 10, 2) := by decide +kernel
theorem dL_law_131 : decode cL_law 131 = .ok (.iconst 0, 1) := by decide +kernel
theorem dL_law_132 : decode cL_law 132 = .ok (.istore 11, 2) := by decide +kernel
theorem dL_law_134 : decode cL_law 134 = .ok (.iload 11, 2) := by decide +kernel
theorem dL_law_136 : decode cL_law 136 = .ok (.bipush 6, 2) := by decide +kernel
theorem dL_law_138 : decode cL_law 138 = .ok (.if_icmp .ge 29, 3) := by decide +kernel
theorem dL_law_141 : decode cL_law 141 = .ok (.aload_n 2, 1) := by decide +kernel
theorem dL_law_142 : decode cL_law 142 = .ok (.iload 9, 2) := by decide +kernel
theorem dL_law_144 : decode cL_law 144 = .ok (.iload 11, 2) := by decide +kernel
theorem dL_law_146 : decode cL_law 146 = .ok (.invokestatic 51, 3) := by decide +kernel
theorem dL_law_149 : decode cL_law 149 = .ok (.ifCond .eq 12, 3) := by decide +kernel
theorem dL_law_152 : decode cL_law 152 = .ok (.iload 10, 2) := by decide +kernel
theorem dL_law_154 : decode cL_law 154 = .ok (.iconst 1, 1) := by decide +kernel
theorem dL_law_155 : decode cL_law 155 = .ok (.iload 11, 2) := by decide +kernel
theorem dL_law_157 : decode cL_law 157 = .ok (.ishl, 1) := by decide +kernel
theorem dL_law_158 : decode cL_law 158 = .ok (.ior, 1) := by decide +kernel
theorem dL_law_159 : decode cL_law 159 = .ok (.istore 10, 2) := by decide +kernel
theorem dL_law_161 : decode cL_law 161 = .ok (.iinc 11 1, 3) := by decide +kernel
theorem dL_law_164 : decode cL_law 164 = .ok (.goto (-30), 3) := by decide +kernel
theorem dL_law_167 : decode cL_law 167 = .ok (.aload_n 1, 1) := by decide +kernel
theorem dL_law_168 : decode cL_law 168 = .ok (.iload 9, 2) := by decide +kernel
theorem dL_law_170 : decode cL_law 170 = .ok (.iconst 0, 1) := by decide +kernel
theorem dL_law_171 : decode cL_law 171 = .ok (.invokevirtual 67, 3) := by decide +kernel
theorem dL_law_174 : decode cL_law 174 = .ok (.aload_n 2, 1) := by decide +kernel
theorem dL_law_175 : decode cL_law 175 = .ok (.iconst 3, 1) := by decide +kernel
theorem dL_law_176 : decode cL_law 176 = .ok (.iload 9, 2) := by decide +kernel
theorem dL_law_178 : decode cL_law 178 = .ok (.iadd, 1) := by decide +kernel
theorem dL_law_179 : decode cL_law 179 = .ok (.iaload, 1) := by decide +kernel
theorem dL_law_180 : decode cL_law 180 = .ok (.if_icmp .ne 84, 3) := by decide +kernel
theorem dL_law_183 : decode cL_law 183 = .ok (.aload_n 1, 1) := by decide +kernel
theorem dL_law_184 : decode cL_law 184 = .ok (.iload 9, 2) := by decide +kernel
theorem dL_law_186 : decode cL_law 186 = .ok (.iconst 1, 1) := by decide +kernel
theorem dL_law_187 : decode cL_law 187 = .ok (.invokevirtual 67, 3) := by decide +kernel
theorem dL_law_190 : decode cL_law 190 = .ok (.aload_n 2, 1) := by decide +kernel
theorem dL_law_191 : decode cL_law 191 = .ok (.bipush 9, 2) := by decide +kernel
theorem dL_law_193 : decode cL_law 193 = .ok (.iload 9, 2) := by decide +kernel
theorem dL_law_195 : decode cL_law 195 = .ok (.iadd, 1) := by decide +kernel
theorem dL_law_196 : decode cL_law 196 = .ok (.iaload, 1) := by decide +kernel
theorem dL_law_197 : decode cL_law 197 = .ok (.if_icmp .ne 67, 3) := by decide +kernel
theorem dL_law_200 : decode cL_law 200 = .ok (.aload_n 1, 1) := by decide +kernel
theorem dL_law_201 : decode cL_law 201 = .ok (.iload 9, 2) := by decide +kernel
theorem dL_law_203 : decode cL_law 203 = .ok (.iconst 2, 1) := by decide +kernel
theorem dL_law_204 : decode cL_law 204 = .ok (.invokevirtual 67, 3) := by decide +kernel
theorem dL_law_207 : decode cL_law 207 = .ok (.aload_n 2, 1) := by decide +kernel
theorem dL_law_208 : decode cL_law 208 = .ok (.bipush 15, 2) := by decide +kernel
theorem dL_law_210 : decode cL_law 210 = .ok (.iload 9, 2) := by decide +kernel
theorem dL_law_212 : decode cL_law 212 = .ok (.iadd, 1) := by decide +kernel
theorem dL_law_213 : decode cL_law 213 = .ok (.iaload, 1) := by decide +kernel
theorem dL_law_214 : decode cL_law 214 = .ok (.if_icmp .ne 50, 3) := by decide +kernel
theorem dL_law_217 : decode cL_law 217 = .ok (.aload_n 1, 1) := by decide +kernel
theorem dL_law_218 : decode cL_law 218 = .ok (.iload 9, 2) := by decide +kernel
theorem dL_law_220 : decode cL_law 220 = .ok (.iconst 3, 1) := by decide +kernel
theorem dL_law_221 : decode cL_law 221 = .ok (.invokevirtual 67, 3) := by decide +kernel
theorem dL_law_224 : decode cL_law 224 = .ok (.aload_n 2, 1) := by decide +kernel
theorem dL_law_225 : decode cL_law 225 = .ok (.iload 9, 2) := by decide +kernel
theorem dL_law_227 : decode cL_law 227 = .ok (.invokestatic 48, 3) := by decide +kernel
theorem dL_law_230 : decode cL_law 230 = .ok (.if_icmp .ne 34, 3) := by decide +kernel
theorem dL_law_233 : decode cL_law 233 = .ok (.aload_n 1, 1) := by decide +kernel
theorem dL_law_234 : decode cL_law 234 = .ok (.iload 9, 2) := by decide +kernel
theorem dL_law_236 : decode cL_law 236 = .ok (.iconst 4, 1) := by decide +kernel
theorem dL_law_237 : decode cL_law 237 = .ok (.invokevirtual 67, 3) := by decide +kernel
theorem dL_law_240 : decode cL_law 240 = .ok (.iload 10, 2) := by decide +kernel
theorem dL_law_242 : decode cL_law 242 = .ok (.if_icmp .ne 22, 3) := by decide +kernel
theorem dL_law_245 : decode cL_law 245 = .ok (.aload_n 1, 1) := by decide +kernel
theorem dL_law_246 : decode cL_law 246 = .ok (.iload 9, 2) := by decide +kernel
theorem dL_law_248 : decode cL_law 248 = .ok (.iconst 5, 1) := by decide +kernel
theorem dL_law_249 : decode cL_law 249 = .ok (.invokevirtual 67, 3) := by decide +kernel
theorem dL_law_252 : decode cL_law 252 = .ok (.aload_n 2, 1) := by decide +kernel
theorem dL_law_253 : decode cL_law 253 = .ok (.bipush 21, 2) := by decide +kernel
theorem dL_law_255 : decode cL_law 255 = .ok (.iaload, 1) := by decide +kernel
theorem dL_law_256 : decode cL_law 256 = .ok (.iload 9, 2) := by decide +kernel
theorem dL_law_258 : decode cL_law 258 = .ok (.ishr, 1) := by decide +kernel
theorem dL_law_259 : decode cL_law 259 = .ok (.iconst 1, 1) := by decide +kernel
theorem dL_law_260 : decode cL_law 260 = .ok (.iand, 1) := by decide +kernel
theorem dL_law_261 : decode cL_law 261 = .ok (.if_icmp .eq 5, 3) := by decide +kernel
theorem dL_law_264 : decode cL_law 264 = .ok (.iconst 0, 1) := by decide +kernel
theorem dL_law_265 : decode cL_law 265 = .ok (.ireturn, 1) := by decide +kernel
theorem dL_law_266 : decode cL_law 266 = .ok (.iinc 9 1, 3) := by decide +kernel
theorem dL_law_269 : decode cL_law 269 = .ok (.goto (-149), 3) := by decide +kernel
theorem dL_law_272 : decode cL_law 272 = .ok (.iload 8, 2) := by decide +kernel
theorem dL_law_274 : decode cL_law 274 = .ok (.iconst 2, 1) := by decide +kernel
theorem dL_law_275 : decode cL_law 275 = .ok (.irem, 1) := by decide +kernel
theorem dL_law_276 : decode cL_law 276 = .ok (.istore 9, 2) := by decide +kernel
theorem dL_law_278 : decode cL_law 278 = .ok (.iload 9, 2) := by decide +kernel
theorem dL_law_280 : decode cL_law 280 = .ok (.bipush 30, 2) := by decide +kernel
theorem dL_law_282 : decode cL_law 282 = .ok (.if_icmp .ge 118, 3) := by decide +kernel
theorem dL_law_285 : decode cL_law 285 = .ok (.aload_n 2, 1) := by decide +kernel
theorem dL_law_286 : decode cL_law 286 = .ok (.aload_n 3, 1) := by decide +kernel
theorem dL_law_287 : decode cL_law 287 = .ok (.aload 4, 2) := by decide +kernel
theorem dL_law_289 : decode cL_law 289 = .ok (.aload 5, 2) := by decide +kernel
theorem dL_law_291 : decode cL_law 291 = .ok (.iload 9, 2) := by decide +kernel
theorem dL_law_293 : decode cL_law 293 = .ok (.aload 7, 2) := by decide +kernel
theorem dL_law_295 : decode cL_law 295 = .ok (.invokestatic 70, 3) := by decide +kernel
theorem dL_law_298 : decode cL_law 298 = .ok (.iconst 0, 1) := by decide +kernel
theorem dL_law_299 : decode cL_law 299 = .ok (.istore 10, 2) := by decide +kernel
theorem dL_law_301 : decode cL_law 301 = .ok (.iconst 0, 1) := by decide +kernel
theorem dL_law_302 : decode cL_law 302 = .ok (.istore 11, 2) := by decide +kernel
theorem dL_law_304 : decode cL_law 304 = .ok (.iload 11, 2) := by decide +kernel
theorem dL_law_306 : decode cL_law 306 = .ok (.aload_n 2, 1) := by decide +kernel
theorem dL_law_307 : decode cL_law 307 = .ok (.iconst 1, 1) := by decide +kernel
theorem dL_law_308 : decode cL_law 308 = .ok (.iaload, 1) := by decide +kernel
theorem dL_law_309 : decode cL_law 309 = .ok (.if_icmp .ge 29, 3) := by decide +kernel
theorem dL_law_312 : decode cL_law 312 = .ok (.aload 7, 2) := by decide +kernel
theorem dL_law_314 : decode cL_law 314 = .ok (.bipush 6, 2) := by decide +kernel
theorem dL_law_316 : decode cL_law 316 = .ok (.iload 11, 2) := by decide +kernel
theorem dL_law_318 : decode cL_law 318 = .ok (.iadd, 1) := by decide +kernel
theorem dL_law_319 : decode cL_law 319 = .ok (.iaload, 1) := by decide +kernel
theorem dL_law_320 : decode cL_law 320 = .ok (.ifCond .lt 12, 3) := by decide +kernel
theorem dL_law_323 : decode cL_law 323 = .ok (.iload 10, 2) := by decide +kernel
theorem dL_law_325 : decode cL_law 325 = .ok (.iconst 1, 1) := by decide +kernel
theorem dL_law_326 : decode cL_law 326 = .ok (.iload 11, 2) := by decide +kernel
theorem dL_law_328 : decode cL_law 328 = .ok (.ishl, 1) := by decide +kernel
theorem dL_law_329 : decode cL_law 329 = .ok (.ior, 1) := by decide +kernel
theorem dL_law_330 : decode cL_law 330 = .ok (.istore 10, 2) := by decide +kernel
theorem dL_law_332 : decode cL_law 332 = .ok (.iinc 11 1, 3) := by decide +kernel
theorem dL_law_335 : decode cL_law 335 = .ok (.goto (-31), 3) := by decide +kernel
theorem dL_law_338 : decode cL_law 338 = .ok (.aload_n 1, 1) := by decide +kernel
theorem dL_law_339 : decode cL_law 339 = .ok (.iload 9, 2) := by decide +kernel
theorem dL_law_341 : decode cL_law 341 = .ok (.invokevirtual 74, 3) := by decide +kernel
theorem dL_law_344 : decode cL_law 344 = .ok (.iload 10, 2) := by decide +kernel
theorem dL_law_346 : decode cL_law 346 = .ok (.if_icmp .eq 5, 3) := by decide +kernel
theorem dL_law_349 : decode cL_law 349 = .ok (.iconst 0, 1) := by decide +kernel
theorem dL_law_350 : decode cL_law 350 = .ok (.ireturn, 1) := by decide +kernel
theorem dL_law_351 : decode cL_law 351 = .ok (.iconst 0, 1) := by decide +kernel
theorem dL_law_352 : decode cL_law 352 = .ok (.istore 11, 2) := by decide +kernel
theorem dL_law_354 : decode cL_law 354 = .ok (.iload 11, 2) := by decide +kernel
theorem dL_law_356 : decode cL_law 356 = .ok (.aload_n 2, 1) := by decide +kernel
theorem dL_law_357 : decode cL_law 357 = .ok (.iconst 0, 1) := by decide +kernel
theorem dL_law_358 : decode cL_law 358 = .ok (.iaload, 1) := by decide +kernel
theorem dL_law_359 : decode cL_law 359 = .ok (.if_icmp .ge 27, 3) := by decide +kernel
theorem dL_law_362 : decode cL_law 362 = .ok (.aload_n 1, 1) := by decide +kernel
theorem dL_law_363 : decode cL_law 363 = .ok (.iload 11, 2) := by decide +kernel
theorem dL_law_365 : decode cL_law 365 = .ok (.iload 9, 2) := by decide +kernel
theorem dL_law_367 : decode cL_law 367 = .ok (.invokevirtual 77, 3) := by decide +kernel
theorem dL_law_370 : decode cL_law 370 = .ok (.aload 7, 2) := by decide +kernel
theorem dL_law_372 : decode cL_law 372 = .ok (.iload 11, 2) := by decide +kernel
theorem dL_law_374 : decode cL_law 374 = .ok (.iaload, 1) := by decide +kernel
theorem dL_law_375 : decode cL_law 375 = .ok (.if_icmp .eq 5, 3) := by decide +kernel
theorem dL_law_378 : decode cL_law 378 = .ok (.iconst 0, 1) := by decide +kernel
theorem dL_law_379 : decode cL_law 379 = .ok (.ireturn, 1) := by decide +kernel
theorem dL_law_380 : decode cL_law 380 = .ok (.iinc 11 1, 3) := by decide +kernel
theorem dL_law_383 : decode cL_law 383 = .ok (.goto (-29), 3) := by decide +kernel
theorem dL_law_386 : decode cL_law 386 = .ok (.iload 9, 2) := by decide +kernel
theorem dL_law_388 : decode cL_law 388 = .ok (.iconst 1, 1) := by decide +kernel
theorem dL_law_389 : decode cL_law 389 = .ok (.iload 9, 2) := by decide +kernel
theorem dL_law_391 : decode cL_law 391 = .ok (.iconst 5, 1) := by decide +kernel
theorem dL_law_392 : decode cL_law 392 = .ok (.idiv, 1) := by decide +kernel
theorem dL_law_393 : decode cL_law 393 = .ok (.iadd, 1) := by decide +kernel
theorem dL_law_394 : decode cL_law 394 = .ok (.iadd, 1) := by decide +kernel
theorem dL_law_395 : decode cL_law 395 = .ok (.istore 9, 2) := by decide +kernel
theorem dL_law_397 : decode cL_law 397 = .ok (.goto (-119), 3) := by decide +kernel
theorem dL_law_400 : decode cL_law 400 = .ok (.aload_n 2, 1) := by decide +kernel
theorem dL_law_401 : decode cL_law 401 = .ok (.aload_n 3, 1) := by decide +kernel
theorem dL_law_402 : decode cL_law 402 = .ok (.aload 4, 2) := by decide +kernel
theorem dL_law_404 : decode cL_law 404 = .ok (.aload 5, 2) := by decide +kernel
theorem dL_law_406 : decode cL_law 406 = .ok (.bipush 29, 2) := by decide +kernel
theorem dL_law_408 : decode cL_law 408 = .ok (.aload 7, 2) := by decide +kernel
theorem dL_law_410 : decode cL_law 410 = .ok (.invokestatic 70, 3) := by decide +kernel
theorem dL_law_413 : decode cL_law 413 = .ok (.iconst 0, 1) := by decide +kernel
theorem dL_law_414 : decode cL_law 414 = .ok (.istore 9, 2) := by decide +kernel
theorem dL_law_416 : decode cL_law 416 = .ok (.iconst 0, 1) := by decide +kernel
theorem dL_law_417 : decode cL_law 417 = .ok (.istore 10, 2) := by decide +kernel
theorem dL_law_419 : decode cL_law 419 = .ok (.iload 10, 2) := by decide +kernel
theorem dL_law_421 : decode cL_law 421 = .ok (.aload_n 2, 1) := by decide +kernel
theorem dL_law_422 : decode cL_law 422 = .ok (.iconst 1, 1) := by decide +kernel
theorem dL_law_423 : decode cL_law 423 = .ok (.iaload, 1) := by decide +kernel
theorem dL_law_424 : decode cL_law 424 = .ok (.if_icmp .ge 92, 3) := by decide +kernel
theorem dL_law_427 : decode cL_law 427 = .ok (.iload 9, 2) := by decide +kernel
theorem dL_law_429 : decode cL_law 429 = .ok (.aload 7, 2) := by decide +kernel
theorem dL_law_431 : decode cL_law 431 = .ok (.bipush 6, 2) := by decide +kernel
theorem dL_law_433 : decode cL_law 433 = .ok (.iload 10, 2) := by decide +kernel
theorem dL_law_435 : decode cL_law 435 = .ok (.iadd, 1) := by decide +kernel
theorem dL_law_436 : decode cL_law 436 = .ok (.iaload, 1) := by decide +kernel
theorem dL_law_437 : decode cL_law 437 = .ok (.iadd, 1) := by decide +kernel
theorem dL_law_438 : decode cL_law 438 = .ok (.istore 9, 2) := by decide +kernel
theorem dL_law_440 : decode cL_law 440 = .ok (.aload_n 1, 1) := by decide +kernel
theorem dL_law_441 : decode cL_law 441 = .ok (.iload 10, 2) := by decide +kernel
theorem dL_law_443 : decode cL_law 443 = .ok (.invokevirtual 80, 3) := by decide +kernel
theorem dL_law_446 : decode cL_law 446 = .ok (.aload 7, 2) := by decide +kernel
theorem dL_law_448 : decode cL_law 448 = .ok (.bipush 6, 2) := by decide +kernel
theorem dL_law_450 : decode cL_law 450 = .ok (.iload 10, 2) := by decide +kernel
theorem dL_law_452 : decode cL_law 452 = .ok (.iadd, 1) := by decide +kernel
theorem dL_law_453 : decode cL_law 453 = .ok (.iaload, 1) := by decide +kernel
theorem dL_law_454 : decode cL_law 454 = .ok (.if_icmp .ne 54, 3) := by decide +kernel
theorem dL_law_457 : decode cL_law 457 = .ok (.aload_n 1, 1) := by decide +kernel
theorem dL_law_458 : decode cL_law 458 = .ok (.iload 10, 2) := by decide +kernel
theorem dL_law_460 : decode cL_law 460 = .ok (.invokevirtual 83, 3) := by decide +kernel
theorem dL_law_463 : decode cL_law 463 = .ok (.aload 7, 2) := by decide +kernel
theorem dL_law_465 : decode cL_law 465 = .ok (.bipush 12, 2) := by decide +kernel
theorem dL_law_467 : decode cL_law 467 = .ok (.iload 10, 2) := by decide +kernel
theorem dL_law_469 : decode cL_law 469 = .ok (.iadd, 1) := by decide +kernel
theorem dL_law_470 : decode cL_law 470 = .ok (.iaload, 1) := by decide +kernel
theorem dL_law_471 : decode cL_law 471 = .ok (.if_icmp .ne 37, 3) := by decide +kernel
theorem dL_law_474 : decode cL_law 474 = .ok (.aload_n 1, 1) := by decide +kernel
theorem dL_law_475 : decode cL_law 475 = .ok (.iload 10, 2) := by decide +kernel
theorem dL_law_477 : decode cL_law 477 = .ok (.iconst 0, 1) := by decide +kernel
theorem dL_law_478 : decode cL_law 478 = .ok (.invokevirtual 86, 3) := by decide +kernel
theorem dL_law_481 : decode cL_law 481 = .ok (.aload_n 2, 1) := by decide +kernel
theorem dL_law_482 : decode cL_law 482 = .ok (.bipush 22, 2) := by decide +kernel
theorem dL_law_484 : decode cL_law 484 = .ok (.iload 10, 2) := by decide +kernel
theorem dL_law_486 : decode cL_law 486 = .ok (.iadd, 1) := by decide +kernel
theorem dL_law_487 : decode cL_law 487 = .ok (.iaload, 1) := by decide +kernel
theorem dL_law_488 : decode cL_law 488 = .ok (.if_icmp .ne 20, 3) := by decide +kernel
theorem dL_law_491 : decode cL_law 491 = .ok (.aload_n 1, 1) := by decide +kernel
theorem dL_law_492 : decode cL_law 492 = .ok (.iload 10, 2) := by decide +kernel
theorem dL_law_494 : decode cL_law 494 = .ok (.iconst 1, 1) := by decide +kernel
theorem dL_law_495 : decode cL_law 495 = .ok (.invokevirtual 86, 3) := by decide +kernel
theorem dL_law_498 : decode cL_law 498 = .ok (.aload_n 2, 1) := by decide +kernel
theorem dL_law_499 : decode cL_law 499 = .ok (.bipush 28, 2) := by decide +kernel
theorem dL_law_501 : decode cL_law 501 = .ok (.iload 10, 2) := by decide +kernel
theorem dL_law_503 : decode cL_law 503 = .ok (.iadd, 1) := by decide +kernel
theorem dL_law_504 : decode cL_law 504 = .ok (.iaload, 1) := by decide +kernel
theorem dL_law_505 : decode cL_law 505 = .ok (.if_icmp .eq 5, 3) := by decide +kernel
theorem dL_law_508 : decode cL_law 508 = .ok (.iconst 0, 1) := by decide +kernel
theorem dL_law_509 : decode cL_law 509 = .ok (.ireturn, 1) := by decide +kernel
theorem dL_law_510 : decode cL_law 510 = .ok (.iinc 10 1, 3) := by decide +kernel
theorem dL_law_513 : decode cL_law 513 = .ok (.goto (-94), 3) := by decide +kernel
theorem dL_law_516 : decode cL_law 516 = .ok (.iconst 0, 1) := by decide +kernel
theorem dL_law_517 : decode cL_law 517 = .ok (.istore 10, 2) := by decide +kernel
theorem dL_law_519 : decode cL_law 519 = .ok (.iload 10, 2) := by decide +kernel
theorem dL_law_521 : decode cL_law 521 = .ok (.aload_n 2, 1) := by decide +kernel
theorem dL_law_522 : decode cL_law 522 = .ok (.iconst 0, 1) := by decide +kernel
theorem dL_law_523 : decode cL_law 523 = .ok (.iaload, 1) := by decide +kernel
theorem dL_law_524 : decode cL_law 524 = .ok (.if_icmp .ge 98, 3) := by decide +kernel
theorem dL_law_527 : decode cL_law 527 = .ok (.aload_n 2, 1) := by decide +kernel
theorem dL_law_528 : decode cL_law 528 = .ok (.bipush 21, 2) := by decide +kernel
theorem dL_law_530 : decode cL_law 530 = .ok (.iaload, 1) := by decide +kernel
theorem dL_law_531 : decode cL_law 531 = .ok (.istore 11, 2) := by decide +kernel
theorem dL_law_533 : decode cL_law 533 = .ok (.aload_n 2, 1) := by decide +kernel
theorem dL_law_534 : decode cL_law 534 = .ok (.bipush 21, 2) := by decide +kernel
theorem dL_law_536 : decode cL_law 536 = .ok (.dup2, 1) := by decide +kernel
theorem dL_law_537 : decode cL_law 537 = .ok (.iaload, 1) := by decide +kernel
theorem dL_law_538 : decode cL_law 538 = .ok (.iconst 1, 1) := by decide +kernel
theorem dL_law_539 : decode cL_law 539 = .ok (.iload 10, 2) := by decide +kernel
theorem dL_law_541 : decode cL_law 541 = .ok (.ishl, 1) := by decide +kernel
theorem dL_law_542 : decode cL_law 542 = .ok (.ior, 1) := by decide +kernel
theorem dL_law_543 : decode cL_law 543 = .ok (.iastore, 1) := by decide +kernel
theorem dL_law_544 : decode cL_law 544 = .ok (.aload_n 2, 1) := by decide +kernel
theorem dL_law_545 : decode cL_law 545 = .ok (.aload_n 3, 1) := by decide +kernel
theorem dL_law_546 : decode cL_law 546 = .ok (.aload 4, 2) := by decide +kernel
theorem dL_law_548 : decode cL_law 548 = .ok (.aload 5, 2) := by decide +kernel
theorem dL_law_550 : decode cL_law 550 = .ok (.bipush 29, 2) := by decide +kernel
theorem dL_law_552 : decode cL_law 552 = .ok (.aload 7, 2) := by decide +kernel
theorem dL_law_554 : decode cL_law 554 = .ok (.invokestatic 70, 3) := by decide +kernel
theorem dL_law_557 : decode cL_law 557 = .ok (.aload_n 2, 1) := by decide +kernel
theorem dL_law_558 : decode cL_law 558 = .ok (.bipush 21, 2) := by decide +kernel
theorem dL_law_560 : decode cL_law 560 = .ok (.iload 11, 2) := by decide +kernel
theorem dL_law_562 : decode cL_law 562 = .ok (.iastore, 1) := by decide +kernel
theorem dL_law_563 : decode cL_law 563 = .ok (.iconst 0, 1) := by decide +kernel
theorem dL_law_564 : decode cL_law 564 = .ok (.istore 12, 2) := by decide +kernel
theorem dL_law_566 : decode cL_law 566 = .ok (.iconst 0, 1) := by decide +kernel
theorem dL_law_567 : decode cL_law 567 = .ok (.istore 13, 2) := by decide +kernel
theorem dL_law_569 : decode cL_law 569 = .ok (.iload 13, 2) := by decide +kernel
theorem dL_law_571 : decode cL_law 571 = .ok (.aload_n 2, 1) := by decide +kernel
theorem dL_law_572 : decode cL_law 572 = .ok (.iconst 1, 1) := by decide +kernel
theorem dL_law_573 : decode cL_law 573 = .ok (.iaload, 1) := by decide +kernel
theorem dL_law_574 : decode cL_law 574 = .ok (.if_icmp .ge 22, 3) := by decide +kernel
theorem dL_law_577 : decode cL_law 577 = .ok (.iload 12, 2) := by decide +kernel
theorem dL_law_579 : decode cL_law 579 = .ok (.aload 7, 2) := by decide +kernel
theorem dL_law_581 : decode cL_law 581 = .ok (.bipush 6, 2) := by decide +kernel
theorem dL_law_583 : decode cL_law 583 = .ok (.iload 13, 2) := by decide +kernel
theorem dL_law_585 : decode cL_law 585 = .ok (.iadd, 1) := by decide +kernel
theorem dL_law_586 : decode cL_law 586 = .ok (.iaload, 1) := by decide +kernel
theorem dL_law_587 : decode cL_law 587 = .ok (.iadd, 1) := by decide +kernel
theorem dL_law_588 : decode cL_law 588 = .ok (.istore 12, 2) := by decide +kernel
theorem dL_law_590 : decode cL_law 590 = .ok (.iinc 13 1, 3) := by decide +kernel
theorem dL_law_593 : decode cL_law 593 = .ok (.goto (-24), 3) := by decide +kernel
theorem dL_law_596 : decode cL_law 596 = .ok (.aload_n 1, 1) := by decide +kernel
theorem dL_law_597 : decode cL_law 597 = .ok (.iload 10, 2) := by decide +kernel
theorem dL_law_599 : decode cL_law 599 = .ok (.invokevirtual 89, 3) := by decide +kernel
theorem dL_law_602 : decode cL_law 602 = .ok (.sipush 10000, 3) := by decide +kernel
theorem dL_law_605 : decode cL_law 605 = .ok (.iload 12, 2) := by decide +kernel
theorem dL_law_607 : decode cL_law 607 = .ok (.iadd, 1) := by decide +kernel
theorem dL_law_608 : decode cL_law 608 = .ok (.iload 9, 2) := by decide +kernel
theorem dL_law_610 : decode cL_law 610 = .ok (.isub, 1) := by decide +kernel
theorem dL_law_611 : decode cL_law 611 = .ok (.if_icmp .eq 5, 3) := by decide +kernel
theorem dL_law_614 : decode cL_law 614 = .ok (.iconst 0, 1) := by decide +kernel
theorem dL_law_615 : decode cL_law 615 = .ok (.ireturn, 1) := by decide +kernel
theorem dL_law_616 : decode cL_law 616 = .ok (.iinc 10 1, 3) := by decide +kernel
theorem dL_law_619 : decode cL_law 619 = .ok (.goto (-100), 3) := by decide +kernel
theorem dL_law_622 : decode cL_law 622 = .ok (.iinc 8 1, 3) := by decide +kernel
theorem dL_law_625 : decode cL_law 625 = .ok (.goto (-546), 3) := by decide +kernel
theorem dL_law_628 : decode cL_law 628 = .ok (.aload_n 2, 1) := by decide +kernel
theorem dL_law_629 : decode cL_law 629 = .ok (.iconst 0, 1) := by decide +kernel
theorem dL_law_630 : decode cL_law 630 = .ok (.iaload, 1) := by decide +kernel
theorem dL_law_631 : decode cL_law 631 = .ok (.istore 8, 2) := by decide +kernel
theorem dL_law_633 : decode cL_law 633 = .ok (.aload_n 1, 1) := by decide +kernel
theorem dL_law_634 : decode cL_law 634 = .ok (.iload 8, 2) := by decide +kernel
theorem dL_law_636 : decode cL_law 636 = .ok (.iconst 0, 1) := by decide +kernel
theorem dL_law_637 : decode cL_law 637 = .ok (.invokevirtual 67, 3) := by decide +kernel
theorem dL_law_640 : decode cL_law 640 = .ok (.iconst (-1), 1) := by decide +kernel
theorem dL_law_641 : decode cL_law 641 = .ok (.if_icmp .ne 239, 3) := by decide +kernel
theorem dL_law_644 : decode cL_law 644 = .ok (.aload_n 1, 1) := by decide +kernel
theorem dL_law_645 : decode cL_law 645 = .ok (.iconst 0, 1) := by decide +kernel
theorem dL_law_646 : decode cL_law 646 = .ok (.bipush 6, 2) := by decide +kernel
theorem dL_law_648 : decode cL_law 648 = .ok (.invokevirtual 67, 3) := by decide +kernel
theorem dL_law_651 : decode cL_law 651 = .ok (.bipush (-2), 2) := by decide +kernel
theorem dL_law_653 : decode cL_law 653 = .ok (.if_icmp .ne 227, 3) := by decide +kernel
theorem dL_law_656 : decode cL_law 656 = .ok (.aload_n 1, 1) := by decide +kernel
theorem dL_law_657 : decode cL_law 657 = .ok (.aload_n 2, 1) := by decide +kernel
theorem dL_law_658 : decode cL_law 658 = .ok (.iconst 1, 1) := by decide +kernel
theorem dL_law_659 : decode cL_law 659 = .ok (.iaload, 1) := by decide +kernel
theorem dL_law_660 : decode cL_law 660 = .ok (.iconst 0, 1) := by decide +kernel
theorem dL_law_661 : decode cL_law 661 = .ok (.invokevirtual 86, 3) := by decide +kernel
theorem dL_law_664 : decode cL_law 664 = .ok (.iconst (-1), 1) := by decide +kernel
theorem dL_law_665 : decode cL_law 665 = .ok (.if_icmp .ne 215, 3) := by decide +kernel
theorem dL_law_668 : decode cL_law 668 = .ok (.aload_n 1, 1) := by decide +kernel
theorem dL_law_669 : decode cL_law 669 = .ok (.iconst 0, 1) := by decide +kernel
theorem dL_law_670 : decode cL_law 670 = .ok (.iconst 2, 1) := by decide +kernel
theorem dL_law_671 : decode cL_law 671 = .ok (.invokevirtual 86, 3) := by decide +kernel
theorem dL_law_674 : decode cL_law 674 = .ok (.bipush (-2), 2) := by decide +kernel
theorem dL_law_676 : decode cL_law 676 = .ok (.if_icmp .ne 204, 3) := by decide +kernel
theorem dL_law_679 : decode cL_law 679 = .ok (.aload_n 1, 1) := by decide +kernel
theorem dL_law_680 : decode cL_law 680 = .ok (.bipush 30, 2) := by decide +kernel
theorem dL_law_682 : decode cL_law 682 = .ok (.iconst 0, 1) := by decide +kernel
theorem dL_law_683 : decode cL_law 683 = .ok (.invokevirtual 28, 3) := by decide +kernel
theorem dL_law_686 : decode cL_law 686 = .ok (.iconst (-1), 1) := by decide +kernel
theorem dL_law_687 : decode cL_law 687 = .ok (.if_icmp .ne 193, 3) := by decide +kernel
theorem dL_law_690 : decode cL_law 690 = .ok (.aload_n 1, 1) := by decide +kernel
theorem dL_law_691 : decode cL_law 691 = .ok (.iconst 0, 1) := by decide +kernel
theorem dL_law_692 : decode cL_law 692 = .ok (.bipush 10, 2) := by decide +kernel
theorem dL_law_694 : decode cL_law 694 = .ok (.invokevirtual 28, 3) := by decide +kernel
theorem dL_law_697 : decode cL_law 697 = .ok (.bipush (-2), 2) := by decide +kernel
theorem dL_law_699 : decode cL_law 699 = .ok (.if_icmp .ne 181, 3) := by decide +kernel
theorem dL_law_702 : decode cL_law 702 = .ok (.aload_n 1, 1) := by decide +kernel
theorem dL_law_703 : decode cL_law 703 = .ok (.iconst (-1), 1) := by decide +kernel
theorem dL_law_704 : decode cL_law 704 = .ok (.iconst 0, 1) := by decide +kernel
theorem dL_law_705 : decode cL_law 705 = .ok (.invokevirtual 28, 3) := by decide +kernel
theorem dL_law_708 : decode cL_law 708 = .ok (.iconst (-1), 1) := by decide +kernel
theorem dL_law_709 : decode cL_law 709 = .ok (.if_icmp .ne 171, 3) := by decide +kernel
theorem dL_law_712 : decode cL_law 712 = .ok (.aload_n 1, 1) := by decide +kernel
theorem dL_law_713 : decode cL_law 713 = .ok (.bipush 30, 2) := by decide +kernel
theorem dL_law_715 : decode cL_law 715 = .ok (.iconst 0, 1) := by decide +kernel
theorem dL_law_716 : decode cL_law 716 = .ok (.invokevirtual 31, 3) := by decide +kernel
theorem dL_law_719 : decode cL_law 719 = .ok (.iconst (-1), 1) := by decide +kernel
theorem dL_law_720 : decode cL_law 720 = .ok (.if_icmp .ne 160, 3) := by decide +kernel
theorem dL_law_723 : decode cL_law 723 = .ok (.aload_n 1, 1) := by decide +kernel
theorem dL_law_724 : decode cL_law 724 = .ok (.iconst 0, 1) := by decide +kernel
theorem dL_law_725 : decode cL_law 725 = .ok (.iload 8, 2) := by decide +kernel
theorem dL_law_727 : decode cL_law 727 = .ok (.invokevirtual 31, 3) := by decide +kernel
theorem dL_law_730 : decode cL_law 730 = .ok (.iconst (-1), 1) := by decide +kernel
theorem dL_law_731 : decode cL_law 731 = .ok (.if_icmp .ne 149, 3) := by decide +kernel
theorem dL_law_734 : decode cL_law 734 = .ok (.aload_n 1, 1) := by decide +kernel
theorem dL_law_735 : decode cL_law 735 = .ok (.iconst 0, 1) := by decide +kernel
theorem dL_law_736 : decode cL_law 736 = .ok (.iconst (-1), 1) := by decide +kernel
theorem dL_law_737 : decode cL_law 737 = .ok (.invokevirtual 31, 3) := by decide +kernel
theorem dL_law_740 : decode cL_law 740 = .ok (.iconst (-1), 1) := by decide +kernel
theorem dL_law_741 : decode cL_law 741 = .ok (.if_icmp .ne 139, 3) := by decide +kernel
theorem dL_law_744 : decode cL_law 744 = .ok (.aload_n 1, 1) := by decide +kernel
theorem dL_law_745 : decode cL_law 745 = .ok (.bipush 30, 2) := by decide +kernel
theorem dL_law_747 : decode cL_law 747 = .ok (.iconst 1, 1) := by decide +kernel
theorem dL_law_748 : decode cL_law 748 = .ok (.invokevirtual 34, 3) := by decide +kernel
theorem dL_law_751 : decode cL_law 751 = .ok (.iconst (-1), 1) := by decide +kernel
theorem dL_law_752 : decode cL_law 752 = .ok (.if_icmp .ne 128, 3) := by decide +kernel
theorem dL_law_755 : decode cL_law 755 = .ok (.aload_n 1, 1) := by decide +kernel
theorem dL_law_756 : decode cL_law 756 = .ok (.bipush 30, 2) := by decide +kernel
theorem dL_law_758 : decode cL_law 758 = .ok (.iconst 0, 1) := by decide +kernel
theorem dL_law_759 : decode cL_law 759 = .ok (.invokevirtual 42, 3) := by decide +kernel
theorem dL_law_762 : decode cL_law 762 = .ok (.iconst (-1), 1) := by decide +kernel
theorem dL_law_763 : decode cL_law 763 = .ok (.if_icmp .ne 117, 3) := by decide +kernel
theorem dL_law_766 : decode cL_law 766 = .ok (.aload_n 1, 1) := by decide +kernel
theorem dL_law_767 : decode cL_law 767 = .ok (.iconst 0, 1) := by decide +kernel
theorem dL_law_768 : decode cL_law 768 = .ok (.iload 8, 2) := by decide +kernel
theorem dL_law_770 : decode cL_law 770 = .ok (.invokevirtual 42, 3) := by decide +kernel
theorem dL_law_773 : decode cL_law 773 = .ok (.iconst (-1), 1) := by decide +kernel
theorem dL_law_774 : decode cL_law 774 = .ok (.if_icmp .ne 106, 3) := by decide +kernel
theorem dL_law_777 : decode cL_law 777 = .ok (.aload_n 1, 1) := by decide +kernel
theorem dL_law_778 : decode cL_law 778 = .ok (.aload_n 2, 1) := by decide +kernel
theorem dL_law_779 : decode cL_law 779 = .ok (.iconst 2, 1) := by decide +kernel
theorem dL_law_780 : decode cL_law 780 = .ok (.iaload, 1) := by decide +kernel
theorem dL_law_781 : decode cL_law 781 = .ok (.iconst 1, 1) := by decide +kernel
theorem dL_law_782 : decode cL_law 782 = .ok (.iadd, 1) := by decide +kernel
theorem dL_law_783 : decode cL_law 783 = .ok (.invokevirtual 38, 3) := by decide +kernel
theorem dL_law_786 : decode cL_law 786 = .ok (.bipush (-2), 2) := by decide +kernel
theorem dL_law_788 : decode cL_law 788 = .ok (.if_icmp .ne 92, 3) := by decide +kernel
theorem dL_law_791 : decode cL_law 791 = .ok (.aload_n 1, 1) := by decide +kernel
theorem dL_law_792 : decode cL_law 792 = .ok (.iconst (-1), 1) := by decide +kernel
theorem dL_law_793 : decode cL_law 793 = .ok (.invokevirtual 38, 3) := by decide +kernel
theorem dL_law_796 : decode cL_law 796 = .ok (.bipush (-2), 2) := by decide +kernel
theorem dL_law_798 : decode cL_law 798 = .ok (.if_icmp .ne 82, 3) := by decide +kernel
theorem dL_law_801 : decode cL_law 801 = .ok (.aload_n 1, 1) := by decide +kernel
theorem dL_law_802 : decode cL_law 802 = .ok (.iload 8, 2) := by decide +kernel
theorem dL_law_804 : decode cL_law 804 = .ok (.iconst 1, 1) := by decide +kernel
theorem dL_law_805 : decode cL_law 805 = .ok (.invokevirtual 45, 3) := by decide +kernel
theorem dL_law_808 : decode cL_law 808 = .ok (.iconst (-1), 1) := by decide +kernel
theorem dL_law_809 : decode cL_law 809 = .ok (.if_icmp .ne 71, 3) := by decide +kernel
theorem dL_law_812 : decode cL_law 812 = .ok (.aload_n 1, 1) := by decide +kernel
theorem dL_law_813 : decode cL_law 813 = .ok (.aload_n 2, 1) := by decide +kernel
theorem dL_law_814 : decode cL_law 814 = .ok (.iconst 1, 1) := by decide +kernel
theorem dL_law_815 : decode cL_law 815 = .ok (.iaload, 1) := by decide +kernel
theorem dL_law_816 : decode cL_law 816 = .ok (.invokevirtual 80, 3) := by decide +kernel
theorem dL_law_819 : decode cL_law 819 = .ok (.iconst (-1), 1) := by decide +kernel
theorem dL_law_820 : decode cL_law 820 = .ok (.if_icmp .ne 60, 3) := by decide +kernel
theorem dL_law_823 : decode cL_law 823 = .ok (.aload_n 1, 1) := by decide +kernel
theorem dL_law_824 : decode cL_law 824 = .ok (.aload_n 2, 1) := by decide +kernel
theorem dL_law_825 : decode cL_law 825 = .ok (.iconst 1, 1) := by decide +kernel
theorem dL_law_826 : decode cL_law 826 = .ok (.iaload, 1) := by decide +kernel
theorem dL_law_827 : decode cL_law 827 = .ok (.invokevirtual 83, 3) := by decide +kernel
theorem dL_law_830 : decode cL_law 830 = .ok (.iconst (-1), 1) := by decide +kernel
theorem dL_law_831 : decode cL_law 831 = .ok (.if_icmp .ne 49, 3) := by decide +kernel
theorem dL_law_834 : decode cL_law 834 = .ok (.aload_n 1, 1) := by decide +kernel
theorem dL_law_835 : decode cL_law 835 = .ok (.bipush 30, 2) := by decide +kernel
theorem dL_law_837 : decode cL_law 837 = .ok (.invokevirtual 74, 3) := by decide +kernel
theorem dL_law_840 : decode cL_law 840 = .ok (.iconst (-1), 1) := by decide +kernel
theorem dL_law_841 : decode cL_law 841 = .ok (.if_icmp .ne 39, 3) := by decide +kernel
theorem dL_law_844 : decode cL_law 844 = .ok (.aload_n 1, 1) := by decide +kernel
theorem dL_law_845 : decode cL_law 845 = .ok (.iload 8, 2) := by decide +kernel
theorem dL_law_847 : decode cL_law 847 = .ok (.iconst 0, 1) := by decide +kernel
theorem dL_law_848 : decode cL_law 848 = .ok (.invokevirtual 77, 3) := by decide +kernel
theorem dL_law_851 : decode cL_law 851 = .ok (.iconst (-1), 1) := by decide +kernel
theorem dL_law_852 : decode cL_law 852 = .ok (.if_icmp .ne 28, 3) := by decide +kernel
theorem dL_law_855 : decode cL_law 855 = .ok (.aload_n 1, 1) := by decide +kernel
theorem dL_law_856 : decode cL_law 856 = .ok (.iconst 0, 1) := by decide +kernel
theorem dL_law_857 : decode cL_law 857 = .ok (.bipush 30, 2) := by decide +kernel
theorem dL_law_859 : decode cL_law 859 = .ok (.invokevirtual 77, 3) := by decide +kernel
theorem dL_law_862 : decode cL_law 862 = .ok (.iconst (-1), 1) := by decide +kernel
theorem dL_law_863 : decode cL_law 863 = .ok (.if_icmp .ne 17, 3) := by decide +kernel
theorem dL_law_866 : decode cL_law 866 = .ok (.aload_n 1, 1) := by decide +kernel
theorem dL_law_867 : decode cL_law 867 = .ok (.iload 8, 2) := by decide +kernel
theorem dL_law_869 : decode cL_law 869 = .ok (.invokevirtual 89, 3) := by decide +kernel
theorem dL_law_872 : decode cL_law 872 = .ok (.iconst (-1), 1) := by decide +kernel
theorem dL_law_873 : decode cL_law 873 = .ok (.if_icmp .ne 7, 3) := by decide +kernel
theorem dL_law_876 : decode cL_law 876 = .ok (.iconst 1, 1) := by decide +kernel
theorem dL_law_877 : decode cL_law 877 = .ok (.goto 4, 3) := by decide +kernel
theorem dL_law_880 : decode cL_law 880 = .ok (.iconst 0, 1) := by decide +kernel
theorem dL_law_881 : decode cL_law 881 = .ok (.ireturn, 1) := by decide +kernel
