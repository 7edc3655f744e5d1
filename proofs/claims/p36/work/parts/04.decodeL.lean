theorem dL_cell_0 : decode cL_cell 0 = .ok (.iload_n 1, 1) := by decide +kernel
theorem dL_cell_1 : decode cL_cell 1 = .ok (.aload_n 0, 1) := by decide +kernel
theorem dL_cell_2 : decode cL_cell 2 = .ok (.arraylength, 1) := by decide +kernel
theorem dL_cell_3 : decode cL_cell 3 = .ok (.if_icmp .ge 9, 3) := by decide +kernel
theorem dL_cell_6 : decode cL_cell 6 = .ok (.aload_n 0, 1) := by decide +kernel
theorem dL_cell_7 : decode cL_cell 7 = .ok (.iload_n 1, 1) := by decide +kernel
theorem dL_cell_8 : decode cL_cell 8 = .ok (.iaload, 1) := by decide +kernel
theorem dL_cell_9 : decode cL_cell 9 = .ok (.goto 9, 3) := by decide +kernel
theorem dL_cell_12 : decode cL_cell 12 = .ok (.ldc 7, 2) := by decide +kernel
theorem dL_cell_14 : decode cL_cell 14 = .ok (.iload_n 1, 1) := by decide +kernel
theorem dL_cell_15 : decode cL_cell 15 = .ok (.iconst 1, 1) := by decide +kernel
theorem dL_cell_16 : decode cL_cell 16 = .ok (.iadd, 1) := by decide +kernel
theorem dL_cell_17 : decode cL_cell 17 = .ok (.imul, 1) := by decide +kernel
theorem dL_cell_18 : decode cL_cell 18 = .ok (.ireturn, 1) := by decide +kernel
theorem dL_some_0 : decode cL_some 0 = .ok (.iload_n 0, 1) := by decide +kernel
theorem dL_some_1 : decode cL_some 1 = .ok (.ldc 8, 2) := by decide +kernel
theorem dL_some_3 : decode cL_some 3 = .ok (.iand, 1) := by decide +kernel
theorem dL_some_4 : decode cL_some 4 = .ok (.iload_n 1, 1) := by decide +kernel
theorem dL_some_5 : decode cL_some 5 = .ok (.irem, 1) := by decide +kernel
theorem dL_some_6 : decode cL_some 6 = .ok (.ireturn, 1) := by decide +kernel
theorem dL_put_0 : decode cL_put 0 = .ok (.aload_n 1, 1) := by decide +kernel
theorem dL_put_1 : decode cL_put 1 = .ok (.iload_n 2, 1) := by decide +kernel
theorem dL_put_2 : decode cL_put 2 = .ok (.invokestatic 9, 3) := by decide +kernel
theorem dL_put_5 : decode cL_put 5 = .ok (.istore 8, 2) := by decide +kernel
theorem dL_put_7 : decode cL_put 7 = .ok (.aload 4, 2) := by decide +kernel
theorem dL_put_9 : decode cL_put 9 = .ok (.iconst 0, 1) := by decide +kernel
theorem dL_put_10 : decode cL_put 10 = .ok (.iconst 1, 1) := by decide +kernel
theorem dL_put_11 : decode cL_put 11 = .ok (.iload 8, 2) := by decide +kernel
theorem dL_put_13 : decode cL_put 13 = .ok (.iload_n 3, 1) := by decide +kernel
theorem dL_put_14 : decode cL_put 14 = .ok (.invokestatic 15, 3) := by decide +kernel
theorem dL_put_17 : decode cL_put 17 = .ok (.iadd, 1) := by decide +kernel
theorem dL_put_18 : decode cL_put 18 = .ok (.iastore, 1) := by decide +kernel
theorem dL_put_19 : decode cL_put 19 = .ok (.aload 4, 2) := by decide +kernel
theorem dL_put_21 : decode cL_put 21 = .ok (.iconst 1, 1) := by decide +kernel
theorem dL_put_22 : decode cL_put 22 = .ok (.iconst 1, 1) := by decide +kernel
theorem dL_put_23 : decode cL_put 23 = .ok (.iload 8, 2) := by decide +kernel
theorem dL_put_25 : decode cL_put 25 = .ok (.iconst 3, 1) := by decide +kernel
theorem dL_put_26 : decode cL_put 26 = .ok (.ishr, 1) := by decide +kernel
theorem dL_put_27 : decode cL_put 27 = .ok (.bipush 6, 2) := by decide +kernel
theorem dL_put_29 : decode cL_put 29 = .ok (.invokestatic 15, 3) := by decide +kernel
theorem dL_put_32 : decode cL_put 32 = .ok (.iadd, 1) := by decide +kernel
theorem dL_put_33 : decode cL_put 33 = .ok (.iastore, 1) := by decide +kernel
theorem dL_put_34 : decode cL_put 34 = .ok (.aload 4, 2) := by decide +kernel
theorem dL_put_36 : decode cL_put 36 = .ok (.iconst 2, 1) := by decide +kernel
theorem dL_put_37 : decode cL_put 37 = .ok (.iconst 0, 1) := by decide +kernel
theorem dL_put_38 : decode cL_put 38 = .ok (.iastore, 1) := by decide +kernel
theorem dL_put_39 : decode cL_put 39 = .ok (.aload 4, 2) := by decide +kernel
theorem dL_put_41 : decode cL_put 41 = .ok (.bipush 21, 2) := by decide +kernel
theorem dL_put_43 : decode cL_put 43 = .ok (.iconst 0, 1) := by decide +kernel
theorem dL_put_44 : decode cL_put 44 = .ok (.iastore, 1) := by decide +kernel
theorem dL_put_45 : decode cL_put 45 = .ok (.iconst 0, 1) := by decide +kernel
theorem dL_put_46 : decode cL_put 46 = .ok (.istore 9, 2) := by decide +kernel
theorem dL_put_48 : decode cL_put 48 = .ok (.iload 9, 2) := by decide +kernel
theorem dL_put_50 : decode cL_put 50 = .ok (.bipush 30, 2) := by decide +kernel
theorem dL_put_52 : decode cL_put 52 = .ok (.if_icmp .ge 28, 3) := by decide +kernel
theorem dL_put_55 : decode cL_put 55 = .ok (.aload 5, 2) := by decide +kernel
theorem dL_put_57 : decode cL_put 57 = .ok (.iload 9, 2) := by decide +kernel
theorem dL_put_59 : decode cL_put 59 = .ok (.iconst 0, 1) := by decide +kernel
theorem dL_put_60 : decode cL_put 60 = .ok (.iastore, 1) := by decide +kernel
theorem dL_put_61 : decode cL_put 61 = .ok (.aload 6, 2) := by decide +kernel
theorem dL_put_63 : decode cL_put 63 = .ok (.iload 9, 2) := by decide +kernel
theorem dL_put_65 : decode cL_put 65 = .ok (.bipush (-9), 2) := by decide +kernel
theorem dL_put_67 : decode cL_put 67 = .ok (.iastore, 1) := by decide +kernel
theorem dL_put_68 : decode cL_put 68 = .ok (.aload 7, 2) := by decide +kernel
theorem dL_put_70 : decode cL_put 70 = .ok (.iload 9, 2) := by decide +kernel
theorem dL_put_72 : decode cL_put 72 = .ok (.iconst 0, 1) := by decide +kernel
theorem dL_put_73 : decode cL_put 73 = .ok (.iastore, 1) := by decide +kernel
theorem dL_put_74 : decode cL_put 74 = .ok (.iinc 9 1, 3) := by decide +kernel
theorem dL_put_77 : decode cL_put 77 = .ok (.goto (-29), 3) := by decide +kernel
theorem dL_put_80 : decode cL_put 80 = .ok (.aload_n 0, 1) := by decide +kernel
theorem dL_put_81 : decode cL_put 81 = .ok (.iconst 0, 1) := by decide +kernel
theorem dL_put_82 : decode cL_put 82 = .ok (.iconst 0, 1) := by decide +kernel
theorem dL_put_83 : decode cL_put 83 = .ok (.bipush 50, 2) := by decide +kernel
theorem dL_put_85 : decode cL_put 85 = .ok (.invokevirtual 19, 3) := by decide +kernel
theorem dL_put_88 : decode cL_put 88 = .ok (.iconst 1, 1) := by decide +kernel
theorem dL_put_89 : decode cL_put 89 = .ok (.if_icmp .ne 15, 3) := by decide +kernel
theorem dL_put_92 : decode cL_put 92 = .ok (.aload_n 0, 1) := by decide +kernel
theorem dL_put_93 : decode cL_put 93 = .ok (.iconst 0, 1) := by decide +kernel
theorem dL_put_94 : decode cL_put 94 = .ok (.iconst 0, 1) := by decide +kernel
theorem dL_put_95 : decode cL_put 95 = .ok (.bipush 107, 2) := by decide +kernel
theorem dL_put_97 : decode cL_put 97 = .ok (.invokevirtual 25, 3) := by decide +kernel
theorem dL_put_100 : decode cL_put 100 = .ok (.iconst 1, 1) := by decide +kernel
theorem dL_put_101 : decode cL_put 101 = .ok (.if_icmp .eq 6, 3) := by decide +kernel
theorem dL_put_104 : decode cL_put 104 = .ok (.bipush (-99), 2) := by decide +kernel
theorem dL_put_106 : decode cL_put 106 = .ok (.ireturn, 1) := by decide +kernel
theorem dL_put_107 : decode cL_put 107 = .ok (.iconst 1, 1) := by decide +kernel
theorem dL_put_108 : decode cL_put 108 = .ok (.istore 9, 2) := by decide +kernel
theorem dL_put_110 : decode cL_put 110 = .ok (.iconst 0, 1) := by decide +kernel
theorem dL_put_111 : decode cL_put 111 = .ok (.istore 10, 2) := by decide +kernel
theorem dL_put_113 : decode cL_put 113 = .ok (.iload 10, 2) := by decide +kernel
theorem dL_put_115 : decode cL_put 115 = .ok (.aload 4, 2) := by decide +kernel
theorem dL_put_117 : decode cL_put 117 = .ok (.iconst 0, 1) := by decide +kernel
theorem dL_put_118 : decode cL_put 118 = .ok (.iaload, 1) := by decide +kernel
theorem dL_put_119 : decode cL_put 119 = .ok (.if_icmp .ge 210, 3) := by decide +kernel
theorem dL_put_122 : decode cL_put 122 = .ok (.aload_n 1, 1) := by decide +kernel
theorem dL_put_123 : decode cL_put 123 = .ok (.iload_n 2, 1) := by decide +kernel
theorem dL_put_124 : decode cL_put 124 = .ok (.iconst 1, 1) := by decide +kernel
theorem dL_put_125 : decode cL_put 125 = .ok (.iadd, 1) := by decide +kernel
theorem dL_put_126 : decode cL_put 126 = .ok (.iload 10, 2) := by decide +kernel
theorem dL_put_128 : decode cL_put 128 = .ok (.iconst 2, 1) := by decide +kernel
theorem dL_put_129 : decode cL_put 129 = .ok (.irem, 1) := by decide +kernel
theorem dL_put_130 : decode cL_put 130 = .ok (.iadd, 1) := by decide +kernel
theorem dL_put_131 : decode cL_put 131 = .ok (.invokestatic 9, 3) := by decide +kernel
theorem dL_put_134 : decode cL_put 134 = .ok (.iload 10, 2) := by decide +kernel
theorem dL_put_136 : decode cL_put 136 = .ok (.iconst 2, 1) := by decide +kernel
theorem dL_put_137 : decode cL_put 137 = .ok (.idiv, 1) := by decide +kernel
theorem dL_put_138 : decode cL_put 138 = .ok (.bipush 7, 2) := by decide +kernel
theorem dL_put_140 : decode cL_put 140 = .ok (.imul, 1) := by decide +kernel
theorem dL_put_141 : decode cL_put 141 = .ok (.ishr, 1) := by decide +kernel
theorem dL_put_142 : decode cL_put 142 = .ok (.istore 11, 2) := by decide +kernel
theorem dL_put_144 : decode cL_put 144 = .ok (.aload 4, 2) := by decide +kernel
theorem dL_put_146 : decode cL_put 146 = .ok (.iconst 3, 1) := by decide +kernel
theorem dL_put_147 : decode cL_put 147 = .ok (.iload 10, 2) := by decide +kernel
theorem dL_put_149 : decode cL_put 149 = .ok (.iadd, 1) := by decide +kernel
theorem dL_put_150 : decode cL_put 150 = .ok (.iload 11, 2) := by decide +kernel
theorem dL_put_152 : decode cL_put 152 = .ok (.iconst 4, 1) := by decide +kernel
theorem dL_put_153 : decode cL_put 153 = .ok (.invokestatic 15, 3) := by decide +kernel
theorem dL_put_156 : decode cL_put 156 = .ok (.iconst 3, 1) := by decide +kernel
theorem dL_put_157 : decode cL_put 157 = .ok (.if_icmp .ne 7, 3) := by decide +kernel
theorem dL_put_160 : decode cL_put 160 = .ok (.iconst 0, 1) := by decide +kernel
theorem dL_put_161 : decode cL_put 161 = .ok (.goto 9, 3) := by decide +kernel
theorem dL_put_164 : decode cL_put 164 = .ok (.iload 11, 2) := by decide +kernel
theorem dL_put_166 : decode cL_put 166 = .ok (.iconst 4, 1) := by decide +kernel
theorem dL_put_167 : decode cL_put 167 = .ok (.invokestatic 15, 3) := by decide +kernel
theorem dL_put_170 : decode cL_put 170 = .ok (.iastore, 1) := by decide +kernel
theorem dL_put_171 : decode cL_put 171 = .ok (.aload 4, 2) := by decide +kernel
theorem dL_put_173 : decode cL_put 173 = .ok (.bipush 9, 2) := by decide +kernel
theorem dL_put_175 : decode cL_put 175 = .ok (.iload 10, 2) := by decide +kernel
theorem dL_put_177 : decode cL_put 177 = .ok (.iadd, 1) := by decide +kernel
theorem dL_put_178 : decode cL_put 178 = .ok (.iload 11, 2) := by decide +kernel
theorem dL_put_180 : decode cL_put 180 = .ok (.iconst 1, 1) := by decide +kernel
theorem dL_put_181 : decode cL_put 181 = .ok (.ishr, 1) := by decide +kernel
theorem dL_put_182 : decode cL_put 182 = .ok (.iload 8, 2) := by decide +kernel
theorem dL_put_184 : decode cL_put 184 = .ok (.bipush 6, 2) := by decide +kernel
theorem dL_put_186 : decode cL_put 186 = .ok (.ishr, 1) := by decide +kernel
theorem dL_put_187 : decode cL_put 187 = .ok (.iconst 2, 1) := by decide +kernel
theorem dL_put_188 : decode cL_put 188 = .ok (.invokestatic 15, 3) := by decide +kernel
theorem dL_put_191 : decode cL_put 191 = .ok (.ifCond .ne 8, 3) := by decide +kernel
theorem dL_put_194 : decode cL_put 194 = .ok (.bipush 6, 2) := by decide +kernel
theorem dL_put_196 : decode cL_put 196 = .ok (.goto 4, 3) := by decide +kernel
theorem dL_put_199 : decode cL_put 199 = .ok (.iconst 3, 1) := by decide +kernel
theorem dL_put_200 : decode cL_put 200 = .ok (.invokestatic 15, 3) := by decide +kernel
theorem dL_put_203 : decode cL_put 203 = .ok (.iastore, 1) := by decide +kernel
theorem dL_put_204 : decode cL_put 204 = .ok (.aload 4, 2) := by decide +kernel
theorem dL_put_206 : decode cL_put 206 = .ok (.bipush 15, 2) := by decide +kernel
theorem dL_put_208 : decode cL_put 208 = .ok (.iload 10, 2) := by decide +kernel
theorem dL_put_210 : decode cL_put 210 = .ok (.iadd, 1) := by decide +kernel
theorem dL_put_211 : decode cL_put 211 = .ok (.iconst 1, 1) := by decide +kernel
theorem dL_put_212 : decode cL_put 212 = .ok (.iload 11, 2) := by decide +kernel
theorem dL_put_214 : decode cL_put 214 = .ok (.iconst 3, 1) := by decide +kernel
theorem dL_put_215 : decode cL_put 215 = .ok (.ishr, 1) := by decide +kernel
theorem dL_put_216 : decode cL_put 216 = .ok (.bipush 9, 2) := by decide +kernel
theorem dL_put_218 : decode cL_put 218 = .ok (.invokestatic 15, 3) := by decide +kernel
theorem dL_put_221 : decode cL_put 221 = .ok (.iadd, 1) := by decide +kernel
theorem dL_put_222 : decode cL_put 222 = .ok (.iastore, 1) := by decide +kernel
theorem dL_put_223 : decode cL_put 223 = .ok (.aload_n 0, 1) := by decide +kernel
theorem dL_put_224 : decode cL_put 224 = .ok (.iconst 0, 1) := by decide +kernel
theorem dL_put_225 : decode cL_put 225 = .ok (.iload 9, 2) := by decide +kernel
theorem dL_put_227 : decode cL_put 227 = .ok (.iinc 9 1, 3) := by decide +kernel
theorem dL_put_230 : decode cL_put 230 = .ok (.aload 4, 2) := by decide +kernel
theorem dL_put_232 : decode cL_put 232 = .ok (.iconst 3, 1) := by decide +kernel
theorem dL_put_233 : decode cL_put 233 = .ok (.iload 10, 2) := by decide +kernel
theorem dL_put_235 : decode cL_put 235 = .ok (.iadd, 1) := by decide +kernel
theorem dL_put_236 : decode cL_put 236 = .ok (.iaload, 1) := by decide +kernel
theorem dL_put_237 : decode cL_put 237 = .ok (.ifCond .ne 8, 3) := by decide +kernel
theorem dL_put_240 : decode cL_put 240 = .ok (.bipush 116, 2) := by decide +kernel
theorem dL_put_242 : decode cL_put 242 = .ok (.goto 21, 3) := by decide +kernel
theorem dL_put_245 : decode cL_put 245 = .ok (.aload 4, 2) := by decide +kernel
theorem dL_put_247 : decode cL_put 247 = .ok (.iconst 3, 1) := by decide +kernel
theorem dL_put_248 : decode cL_put 248 = .ok (.iload 10, 2) := by decide +kernel
theorem dL_put_250 : decode cL_put 250 = .ok (.iadd, 1) := by decide +kernel
theorem dL_put_251 : decode cL_put 251 = .ok (.iaload, 1) := by decide +kernel
theorem dL_put_252 : decode cL_put 252 = .ok (.iconst 1, 1) := by decide +kernel
theorem dL_put_253 : decode cL_put 253 = .ok (.if_icmp .ne 8, 3) := by decide +kernel
theorem dL_put_256 : decode cL_put 256 = .ok (.bipush 103, 2) := by decide +kernel
theorem dL_put_258 : decode cL_put 258 = .ok (.goto 5, 3) := by decide +kernel
theorem dL_put_261 : decode cL_put 261 = .ok (.bipush 111, 2) := by decide +kernel
theorem dL_put_263 : decode cL_put 263 = .ok (.invokevirtual 25, 3) := by decide +kernel
theorem dL_put_266 : decode cL_put 266 = .ok (.iconst 1, 1) := by decide +kernel
theorem dL_put_267 : decode cL_put 267 = .ok (.if_icmp .ne 53, 3) := by decide +kernel
theorem dL_put_270 : decode cL_put 270 = .ok (.aload_n 0, 1) := by decide +kernel
theorem dL_put_271 : decode cL_put 271 = .ok (.iconst 0, 1) := by decide +kernel
theorem dL_put_272 : decode cL_put 272 = .ok (.iload 9, 2) := by decide +kernel
theorem dL_put_274 : decode cL_put 274 = .ok (.iinc 9 1, 3) := by decide +kernel
theorem dL_put_277 : decode cL_put 277 = .ok (.bipush 48, 2) := by decide +kernel
theorem dL_put_279 : decode cL_put 279 = .ok (.aload 4, 2) := by decide +kernel
theorem dL_put_281 : decode cL_put 281 = .ok (.bipush 9, 2) := by decide +kernel
theorem dL_put_283 : decode cL_put 283 = .ok (.iload 10, 2) := by decide +kernel
theorem dL_put_285 : decode cL_put 285 = .ok (.iadd, 1) := by decide +kernel
theorem dL_put_286 : decode cL_put 286 = .ok (.iaload, 1) := by decide +kernel
theorem dL_put_287 : decode cL_put 287 = .ok (.iadd, 1) := by decide +kernel
theorem dL_put_288 : decode cL_put 288 = .ok (.invokevirtual 25, 3) := by decide +kernel
theorem dL_put_291 : decode cL_put 291 = .ok (.iconst 1, 1) := by decide +kernel
theorem dL_put_292 : decode cL_put 292 = .ok (.if_icmp .ne 28, 3) := by decide +kernel
theorem dL_put_295 : decode cL_put 295 = .ok (.aload_n 0, 1) := by decide +kernel
theorem dL_put_296 : decode cL_put 296 = .ok (.iconst 0, 1) := by decide +kernel
theorem dL_put_297 : decode cL_put 297 = .ok (.iload 9, 2) := by decide +kernel
theorem dL_put_299 : decode cL_put 299 = .ok (.iinc 9 1, 3) := by decide +kernel
theorem dL_put_302 : decode cL_put 302 = .ok (.bipush 48, 2) := by decide +kernel
theorem dL_put_304 : decode cL_put 304 = .ok (.aload 4, 2) := by decide +kernel
theorem dL_put_306 : decode cL_put 306 = .ok (.bipush 15, 2) := by decide +kernel
theorem dL_put_308 : decode cL_put 308 = .ok (.iload 10, 2) := by decide +kernel
theorem dL_put_310 : decode cL_put 310 = .ok (.iadd, 1) := by decide +kernel
theorem dL_put_311 : decode cL_put 311 = .ok (.iaload, 1) := by decide +kernel
theorem dL_put_312 : decode cL_put 312 = .ok (.iadd, 1) := by decide +kernel
theorem dL_put_313 : decode cL_put 313 = .ok (.invokevirtual 25, 3) := by decide +kernel
theorem dL_put_316 : decode cL_put 316 = .ok (.iconst 1, 1) := by decide +kernel
theorem dL_put_317 : decode cL_put 317 = .ok (.if_icmp .eq 6, 3) := by decide +kernel
theorem dL_put_320 : decode cL_put 320 = .ok (.bipush (-99), 2) := by decide +kernel
theorem dL_put_322 : decode cL_put 322 = .ok (.ireturn, 1) := by decide +kernel
theorem dL_put_323 : decode cL_put 323 = .ok (.iinc 10 1, 3) := by decide +kernel
theorem dL_put_326 : decode cL_put 326 = .ok (.goto (-213), 3) := by decide +kernel
theorem dL_put_329 : decode cL_put 329 = .ok (.iconst 0, 1) := by decide +kernel
theorem dL_put_330 : decode cL_put 330 = .ok (.istore 10, 2) := by decide +kernel
theorem dL_put_332 : decode cL_put 332 = .ok (.iload 10, 2) := by decide +kernel
theorem dL_put_334 : decode cL_put 334 = .ok (.aload 4, 2) := by decide +kernel
theorem dL_put_336 : decode cL_put 336 = .ok (.iconst 1, 1) := by decide +kernel
theorem dL_put_337 : decode cL_put 337 = .ok (.iaload, 1) := by decide +kernel
theorem dL_put_338 : decode cL_put 338 = .ok (.if_icmp .ge 171, 3) := by decide +kernel
theorem dL_put_341 : decode cL_put 341 = .ok (.aload_n 1, 1) := by decide +kernel
theorem dL_put_342 : decode cL_put 342 = .ok (.iload_n 2, 1) := by decide +kernel
theorem dL_put_343 : decode cL_put 343 = .ok (.iconst 3, 1) := by decide +kernel
theorem dL_put_344 : decode cL_put 344 = .ok (.iadd, 1) := by decide +kernel
theorem dL_put_345 : decode cL_put 345 = .ok (.invokestatic 9, 3) := by decide +kernel
theorem dL_put_348 : decode cL_put 348 = .ok (.iconst 3, 1) := by decide +kernel
theorem dL_put_349 : decode cL_put 349 = .ok (.iload 10, 2) := by decide +kernel
theorem dL_put_351 : decode cL_put 351 = .ok (.imul, 1) := by decide +kernel
theorem dL_put_352 : decode cL_put 352 = .ok (.ishr, 1) := by decide +kernel
theorem dL_put_353 : decode cL_put 353 = .ok (.istore 11, 2) := by decide +kernel
theorem dL_put_355 : decode cL_put 355 = .ok (.aload 4, 2) := by decide +kernel
theorem dL_put_357 : decode cL_put 357 = .ok (.bipush 22, 2) := by decide +kernel
theorem dL_put_359 : decode cL_put 359 = .ok (.iload 10, 2) := by decide +kernel
theorem dL_put_361 : decode cL_put 361 = .ok (.iadd, 1) := by decide +kernel
theorem dL_put_362 : decode cL_put 362 = .ok (.iload 11, 2) := by decide +kernel
theorem dL_put_364 : decode cL_put 364 = .ok (.iload 8, 2) := by decide +kernel
theorem dL_put_366 : decode cL_put 366 = .ok (.bipush 6, 2) := by decide +kernel
theorem dL_put_368 : decode cL_put 368 = .ok (.ishr, 1) := by decide +kernel
theorem dL_put_369 : decode cL_put 369 = .ok (.iconst 2, 1) := by decide +kernel
theorem dL_put_370 : decode cL_put 370 = .ok (.invokestatic 15, 3) := by decide +kernel
theorem dL_put_373 : decode cL_put 373 = .ok (.ifCond .ne 8, 3) := by decide +kernel
theorem dL_put_376 : decode cL_put 376 = .ok (.bipush 6, 2) := by decide +kernel
theorem dL_put_378 : decode cL_put 378 = .ok (.goto 4, 3) := by decide +kernel
theorem dL_put_381 : decode cL_put 381 = .ok (.iconst 3, 1) := by decide +kernel
theorem dL_put_382 : decode cL_put 382 = .ok (.invokestatic 15, 3) := by decide +kernel
theorem dL_put_385 : decode cL_put 385 = .ok (.iastore, 1) := by decide +kernel
theorem dL_put_386 : decode cL_put 386 = .ok (.aload 4, 2) := by decide +kernel
theorem dL_put_388 : decode cL_put 388 = .ok (.bipush 28, 2) := by decide +kernel
theorem dL_put_390 : decode cL_put 390 = .ok (.iload 10, 2) := by decide +kernel
theorem dL_put_392 : decode cL_put 392 = .ok (.iadd, 1) := by decide +kernel
theorem dL_put_393 : decode cL_put 393 = .ok (.iload 11, 2) := by decide +kernel
theorem dL_put_395 : decode cL_put 395 = .ok (.iconst 2, 1) := by decide +kernel
theorem dL_put_396 : decode cL_put 396 = .ok (.ishr, 1) := by decide +kernel
theorem dL_put_397 : decode cL_put 397 = .ok (.bipush 30, 2) := by decide +kernel
theorem dL_put_399 : decode cL_put 399 = .ok (.invokestatic 15, 3) := by decide +kernel
theorem dL_put_402 : decode cL_put 402 = .ok (.iastore, 1) := by decide +kernel
theorem dL_put_403 : decode cL_put 403 = .ok (.aload_n 0, 1) := by decide +kernel
theorem dL_put_404 : decode cL_put 404 = .ok (.iconst 0, 1) := by decide +kernel
theorem dL_put_405 : decode cL_put 405 = .ok (.iload 9, 2) := by decide +kernel
theorem dL_put_407 : decode cL_put 407 = .ok (.iinc 9 1, 3) := by decide +kernel
theorem dL_put_410 : decode cL_put 410 = .ok (.bipush 59, 2) := by decide +kernel
theorem dL_put_412 : decode cL_put 412 = .ok (.invokevirtual 25, 3) := by decide +kernel
theorem dL_put_415 : decode cL_put 415 = .ok (.iconst 1, 1) := by decide +kernel
theorem dL_put_416 : decode cL_put 416 = .ok (.if_icmp .ne 84, 3) := by decide +kernel
theorem dL_put_419 : decode cL_put 419 = .ok (.aload_n 0, 1) := by decide +kernel
theorem dL_put_420 : decode cL_put 420 = .ok (.iconst 0, 1) := by decide +kernel
theorem dL_put_421 : decode cL_put 421 = .ok (.iload 9, 2) := by decide +kernel
theorem dL_put_423 : decode cL_put 423 = .ok (.iinc 9 1, 3) := by decide +kernel
theorem dL_put_426 : decode cL_put 426 = .ok (.bipush 48, 2) := by decide +kernel
theorem dL_put_428 : decode cL_put 428 = .ok (.aload 4, 2) := by decide +kernel
theorem dL_put_430 : decode cL_put 430 = .ok (.bipush 22, 2) := by decide +kernel
theorem dL_put_432 : decode cL_put 432 = .ok (.iload 10, 2) := by decide +kernel
theorem dL_put_434 : decode cL_put 434 = .ok (.iadd, 1) := by decide +kernel
theorem dL_put_435 : decode cL_put 435 = .ok (.iaload, 1) := by decide +kernel
theorem dL_put_436 : decode cL_put 436 = .ok (.iadd, 1) := by decide +kernel
theorem dL_put_437 : decode cL_put 437 = .ok (.invokevirtual 25, 3) := by decide +kernel
theorem dL_put_440 : decode cL_put 440 = .ok (.iconst 1, 1) := by decide +kernel
theorem dL_put_441 : decode cL_put 441 = .ok (.if_icmp .ne 59, 3) := by decide +kernel
theorem dL_put_444 : decode cL_put 444 = .ok (.aload_n 0, 1) := by decide +kernel
theorem dL_put_445 : decode cL_put 445 = .ok (.iconst 0, 1) := by decide +kernel
theorem dL_put_446 : decode cL_put 446 = .ok (.iload 9, 2) := by decide +kernel
theorem dL_put_448 : decode cL_put 448 = .ok (.iinc 9 1, 3) := by decide +kernel
theorem dL_put_451 : decode cL_put 451 = .ok (.bipush 48, 2) := by decide +kernel
theorem dL_put_453 : decode cL_put 453 = .ok (.aload 4, 2) := by decide +kernel
theorem dL_put_455 : decode cL_put 455 = .ok (.bipush 28, 2) := by decide +kernel
theorem dL_put_457 : decode cL_put 457 = .ok (.iload 10, 2) := by decide +kernel
theorem dL_put_459 : decode cL_put 459 = .ok (.iadd, 1) := by decide +kernel
theorem dL_put_460 : decode cL_put 460 = .ok (.iaload, 1) := by decide +kernel
theorem dL_put_461 : decode cL_put 461 = .ok (.bipush 10, 2) := by decide +kernel
theorem dL_put_463 : decode cL_put 463 = .ok (.idiv, 1) := by decide +kernel
theorem dL_put_464 : decode cL_put 464 = .ok (.iadd, 1) := by decide +kernel
theorem dL_put_465 : decode cL_put 465 = .ok (.invokevirtual 25, 3) := by decide +kernel
theorem dL_put_468 : decode cL_put 468 = .ok (.iconst 1, 1) := by decide +kernel
theorem dL_put_469 : decode cL_put 469 = .ok (.if_icmp .ne 31, 3) := by decide +kernel
theorem dL_put_472 : decode cL_put 472 = .ok (.aload_n 0, 1) := by decide +kernel
theorem dL_put_473 : decode cL_put 473 = .ok (.iconst 0, 1) := by decide +kernel
theorem dL_put_474 : decode cL_put 474 = .ok (.iload 9, 2) := by decide +kernel
theorem dL_put_476 : decode cL_put 476 = .ok (.iinc 9 1, 3) := by decide +kernel
theorem dL_put_479 : decode cL_put 479 = .ok (.bipush 48, 2) := by decide +kernel
theorem dL_put_481 : decode cL_put 481 = .ok (.aload 4, 2) := by decide +kernel
theorem dL_put_483 : decode cL_put 483 = .ok (.bipush 28, 2) := by decide +kernel
theorem dL_put_485 : decode cL_put 485 = .ok (.iload 10, 2) := by decide +kernel
theorem dL_put_487 : decode cL_put 487 = .ok (.iadd, 1) := by decide +kernel
theorem dL_put_488 : decode cL_put 488 = .ok (.iaload, 1) := by decide +kernel
theorem dL_put_489 : decode cL_put 489 = .ok (.bipush 10, 2) := by decide +kernel
theorem dL_put_491 : decode cL_put 491 = .ok (.irem, 1) := by decide +kernel
theorem dL_put_492 : decode cL_put 492 = .ok (.iadd, 1) := by decide +kernel
theorem dL_put_493 : decode cL_put 493 = .ok (.invokevirtual 25, 3) := by decide +kernel
theorem dL_put_496 : decode cL_put 496 = .ok (.iconst 1, 1) := by decide +kernel
theorem dL_put_497 : decode cL_put 497 = .ok (.if_icmp .eq 6, 3) := by decide +kernel
theorem dL_put_500 : decode cL_put 500 = .ok (.bipush (-99), 2) := by decide +kernel
theorem dL_put_502 : decode cL_put 502 = .ok (.ireturn, 1) := by decide +kernel
theorem dL_put_503 : decode cL_put 503 = .ok (.iinc 10 1, 3) := by decide +kernel
theorem dL_put_506 : decode cL_put 506 = .ok (.goto (-174), 3) := by decide +kernel
theorem dL_put_509 : decode cL_put 509 = .ok (.iload 9, 2) := by decide +kernel
theorem dL_put_511 : decode cL_put 511 = .ok (.ireturn, 1) := by decide +kernel
theorem dL_change_0 : decode cL_change 0 = .ok (.iconst 0, 1) := by decide +kernel
theorem dL_change_1 : decode cL_change 1 = .ok (.istore 7, 2) := by decide +kernel
theorem dL_change_3 : decode cL_change 3 = .ok (.iload 7, 2) := by decide +kernel
theorem dL_change_5 : decode cL_change 5 = .ok (.bipush 6, 2) := by decide +kernel
theorem dL_change_7 : decode cL_change 7 = .ok (.if_icmp .ge 162, 3) := by decide +kernel
theorem dL_change_10 : decode cL_change 10 = .ok (.iload_n 1, 1) := by decide +kernel
theorem dL_change_11 : decode cL_change 11 = .ok (.iconst 3, 1) := by decide +kernel
theorem dL_change_12 : decode cL_change 12 = .ok (.iload 7, 2) := by decide +kernel
theorem dL_change_14 : decode cL_change 14 = .ok (.imul, 1) := by decide +kernel
theorem dL_change_15 : decode cL_change 15 = .ok (.ishr, 1) := by decide +kernel
theorem dL_change_16 : decode cL_change 16 = .ok (.iload 7, 2) := by decide +kernel
theorem dL_change_18 : decode cL_change 18 = .ok (.iconst 4, 1) := by decide +kernel
theorem dL_change_19 : decode cL_change 19 = .ok (.if_icmp .ge 8, 3) := by decide +kernel
theorem dL_change_22 : decode cL_change 22 = .ok (.bipush 8, 2) := by decide +kernel
theorem dL_change_24 : decode cL_change 24 = .ok (.goto 5, 3) := by decide +kernel
theorem dL_change_27 : decode cL_change 27 = .ok (.bipush 30, 2) := by decide +kernel
theorem dL_change_29 : decode cL_change 29 = .ok (.invokestatic 15, 3) := by decide +kernel
theorem dL_change_32 : decode cL_change 32 = .ok (.istore 8, 2) := by decide +kernel
theorem dL_change_34 : decode cL_change 34 = .ok (.iload_n 2, 1) := by decide +kernel
theorem dL_change_35 : decode cL_change 35 = .ok (.iconst 2, 1) := by decide +kernel
theorem dL_change_36 : decode cL_change 36 = .ok (.iload 7, 2) := by decide +kernel
theorem dL_change_38 : decode cL_change 38 = .ok (.imul, 1) := by decide +kernel
theorem dL_change_39 : decode cL_change 39 = .ok (.ishr, 1) := by decide +kernel
theorem dL_change_40 : decode cL_change 40 = .ok (.iload_n 1, 1) := by decide +kernel
theorem dL_change_41 : decode cL_change 41 = .ok (.bipush 19, 2) := by decide +kernel
theorem dL_change_43 : decode cL_change 43 = .ok (.ishr, 1) := by decide +kernel
theorem dL_change_44 : decode cL_change 44 = .ok (.iconst 2, 1) := by decide +kernel
theorem dL_change_45 : decode cL_change 45 = .ok (.invokestatic 15, 3) := by decide +kernel
theorem dL_change_48 : decode cL_change 48 = .ok (.ifCond .ne 8, 3) := by decide +kernel
theorem dL_change_51 : decode cL_change 51 = .ok (.bipush 10, 2) := by decide +kernel
theorem dL_change_53 : decode cL_change 53 = .ok (.goto 4, 3) := by decide +kernel
theorem dL_change_56 : decode cL_change 56 = .ok (.iconst 4, 1) := by decide +kernel
theorem dL_change_57 : decode cL_change 57 = .ok (.invokestatic 15, 3) := by decide +kernel
theorem dL_change_60 : decode cL_change 60 = .ok (.istore 9, 2) := by decide +kernel
theorem dL_change_62 : decode cL_change 62 = .ok (.aload_n 0, 1) := by decide +kernel
theorem dL_change_63 : decode cL_change 63 = .ok (.iload 8, 2) := by decide +kernel
theorem dL_change_65 : decode cL_change 65 = .ok (.iload 9, 2) := by decide +kernel
theorem dL_change_67 : decode cL_change 67 = .ok (.invokevirtual 28, 3) := by decide +kernel
theorem dL_change_70 : decode cL_change 70 = .ok (.aload 4, 2) := by decide +kernel
theorem dL_change_72 : decode cL_change 72 = .ok (.iload 8, 2) := by decide +kernel
theorem dL_change_74 : decode cL_change 74 = .ok (.iaload, 1) := by decide +kernel
theorem dL_change_75 : decode cL_change 75 = .ok (.if_icmp .eq 5, 3) := by decide +kernel
theorem dL_change_78 : decode cL_change 78 = .ok (.iconst 0, 1) := by decide +kernel
theorem dL_change_79 : decode cL_change 79 = .ok (.ireturn, 1) := by decide +kernel
theorem dL_change_80 : decode cL_change 80 = .ok (.aload 4, 2) := by decide +kernel
theorem dL_change_82 : decode cL_change 82 = .ok (.iload 8, 2) := by decide +kernel
theorem dL_change_84 : decode cL_change 84 = .ok (.iload 9, 2) := by decide +kernel
theorem dL_change_86 : decode cL_change 86 = .ok (.iastore, 1) := by decide +kernel
theorem dL_change_87 : decode cL_change 87 = .ok (.iload_n 2, 1) := by decide +kernel
theorem dL_change_88 : decode cL_change 88 = .ok (.iconst 3, 1) := by decide +kernel
theorem dL_change_89 : decode cL_change 89 = .ok (.iload 7, 2) := by decide +kernel
theorem dL_change_91 : decode cL_change 91 = .ok (.imul, 1) := by decide +kernel
theorem dL_change_92 : decode cL_change 92 = .ok (.ishr, 1) := by decide +kernel
theorem dL_change_93 : decode cL_change 93 = .ok (.iload 7, 2) := by decide +kernel
theorem dL_change_95 : decode cL_change 95 = .ok (.iconst 4, 1) := by decide +kernel
theorem dL_change_96 : decode cL_change 96 = .ok (.if_icmp .ge 8, 3) := by decide +kernel
theorem dL_change_99 : decode cL_change 99 = .ok (.bipush 8, 2) := by decide +kernel
theorem dL_change_101 : decode cL_change 101 = .ok (.goto 5, 3) := by decide +kernel
theorem dL_change_104 : decode cL_change 104 = .ok (.bipush 30, 2) := by decide +kernel
theorem dL_change_106 : decode cL_change 106 = .ok (.invokestatic 15, 3) := by decide +kernel
theorem dL_change_109 : decode cL_change 109 = .ok (.istore 8, 2) := by decide +kernel
theorem dL_change_111 : decode cL_change 111 = .ok (.iload_n 1, 1) := by decide +kernel
theorem dL_change_112 : decode cL_change 112 = .ok (.iconst 2, 1) := by decide +kernel
theorem dL_change_113 : decode cL_change 113 = .ok (.iload 7, 2) := by decide +kernel
theorem dL_change_115 : decode cL_change 115 = .ok (.imul, 1) := by decide +kernel
theorem dL_change_116 : decode cL_change 116 = .ok (.ishr, 1) := by decide +kernel
theorem dL_change_117 : decode cL_change 117 = .ok (.aload_n 3, 1) := by decide +kernel
theorem dL_change_118 : decode cL_change 118 = .ok (.iconst 0, 1) := by decide +kernel
theorem dL_change_119 : decode cL_change 119 = .ok (.iaload, 1) := by decide +kernel
theorem dL_change_120 : decode cL_change 120 = .ok (.iconst 1, 1) := by decide +kernel
theorem dL_change_121 : decode cL_change 121 = .ok (.iadd, 1) := by decide +kernel
theorem dL_change_122 : decode cL_change 122 = .ok (.invokestatic 15, 3) := by decide +kernel
theorem dL_change_125 : decode cL_change 125 = .ok (.iconst 1, 1) := by decide +kernel
theorem dL_change_126 : decode cL_change 126 = .ok (.isub, 1) := by decide +kernel
theorem dL_change_127 : decode cL_change 127 = .ok (.istore 10, 2) := by decide +kernel
theorem dL_change_129 : decode cL_change 129 = .ok (.iload 10, 2) := by decide +kernel
theorem dL_change_131 : decode cL_change 131 = .ok (.ifCond .ge 7, 3) := by decide +kernel
theorem dL_change_134 : decode cL_change 134 = .ok (.bipush (-9), 2) := by decide +kernel
theorem dL_change_136 : decode cL_change 136 = .ok (.istore 10, 2) := by decide +kernel
theorem dL_change_138 : decode cL_change 138 = .ok (.aload_n 0, 1) := by decide +kernel
theorem dL_change_139 : decode cL_change 139 = .ok (.iload 8, 2) := by decide +kernel
theorem dL_change_141 : decode cL_change 141 = .ok (.iload 10, 2) := by decide +kernel
theorem dL_change_143 : decode cL_change 143 = .ok (.invokevirtual 31, 3) := by decide +kernel
theorem dL_change_146 : decode cL_change 146 = .ok (.aload 5, 2) := by decide +kernel
theorem dL_change_148 : decode cL_change 148 = .ok (.iload 8, 2) := by decide +kernel
theorem dL_change_150 : decode cL_change 150 = .ok (.iaload, 1) := by decide +kernel
theorem dL_change_151 : decode cL_change 151 = .ok (.if_icmp .eq 5, 3) := by decide +kernel
theorem dL_change_154 : decode cL_change 154 = .ok (.iconst 0, 1) := by decide +kernel
theorem dL_change_155 : decode cL_change 155 = .ok (.ireturn, 1) := by decide +kernel
theorem dL_change_156 : decode cL_change 156 = .ok (.aload 5, 2) := by decide +kernel
theorem dL_change_158 : decode cL_change 158 = .ok (.iload 8, 2) := by decide +kernel
theorem dL_change_160 : decode cL_change 160 = .ok (.iload 10, 2) := by decide +kernel
theorem dL_change_162 : decode cL_change 162 = .ok (.iastore, 1) := by decide +kernel
theorem dL_change_163 : decode cL_change 163 = .ok (.iinc 7 1, 3) := by decide +kernel
theorem dL_change_166 : decode cL_change 166 = .ok (.goto (-163), 3) := by decide +kernel
theorem dL_change_169 : decode cL_change 169 = .ok (.iload_n 1, 1) := by decide +kernel
theorem dL_change_170 : decode cL_change 170 = .ok (.bipush 7, 2) := by decide +kernel
theorem dL_change_172 : decode cL_change 172 = .ok (.ishr, 1) := by decide +kernel
theorem dL_change_173 : decode cL_change 173 = .ok (.bipush 30, 2) := by decide +kernel
theorem dL_change_175 : decode cL_change 175 = .ok (.invokestatic 15, 3) := by decide +kernel
theorem dL_change_178 : decode cL_change 178 = .ok (.istore 7, 2) := by decide +kernel
theorem dL_change_180 : decode cL_change 180 = .ok (.iload_n 2, 1) := by decide +kernel
theorem dL_change_181 : decode cL_change 181 = .ok (.bipush 8, 2) := by decide +kernel
theorem dL_change_183 : decode cL_change 183 = .ok (.ishr, 1) := by decide +kernel
theorem dL_change_184 : decode cL_change 184 = .ok (.iconst 3, 1) := by decide +kernel
theorem dL_change_185 : decode cL_change 185 = .ok (.invokestatic 15, 3) := by decide +kernel
theorem dL_change_188 : decode cL_change 188 = .ok (.ifCond .ne 7, 3) := by decide +kernel
theorem dL_change_191 : decode cL_change 191 = .ok (.iconst 1, 1) := by decide +kernel
theorem dL_change_192 : decode cL_change 192 = .ok (.goto 4, 3) := by decide +kernel
theorem dL_change_195 : decode cL_change 195 = .ok (.iconst 0, 1) := by decide +kernel
theorem dL_change_196 : decode cL_change 196 = .ok (.istore 8, 2) := by decide +kernel
theorem dL_change_198 : decode cL_change 198 = .ok (.aload_n 0, 1) := by decide +kernel
theorem dL_change_199 : decode cL_change 199 = .ok (.iload 7, 2) := by decide +kernel
theorem dL_change_201 : decode cL_change 201 = .ok (.iload 8, 2) := by decide +kernel
theorem dL_change_203 : decode cL_change 203 = .ok (.iconst 1, 1) := by decide +kernel
theorem dL_change_204 : decode cL_change 204 = .ok (.if_icmp .ne 7, 3) := by decide +kernel
theorem dL_change_207 : decode cL_change 207 = .ok (.iconst 1, 1) := by decide +kernel
theorem dL_change_208 : decode cL_change 208 = .ok (.goto 4, 3) := by decide +kernel
theorem dL_change_211 : decode cL_change 211 = .ok (.iconst 0, 1) := by decide +kernel
theorem dL_change_212 : decode cL_change 212 = .ok (.invokevirtual 34, 3) := by decide +kernel
theorem dL_change_215 : decode cL_change 215 = .ok (.aload 6, 2) := by decide +kernel
theorem dL_change_217 : decode cL_change 217 = .ok (.iload 7, 2) := by decide +kernel
theorem dL_change_219 : decode cL_change 219 = .ok (.iaload, 1) := by decide +kernel
theorem dL_change_220 : decode cL_change 220 = .ok (.iload 8, 2) := by decide +kernel
theorem dL_change_222 : decode cL_change 222 = .ok (.if_icmp .ne 7, 3) := by decide +kernel
theorem dL_change_225 : decode cL_change 225 = .ok (.iconst 0, 1) := by decide +kernel
theorem dL_change_226 : decode cL_change 226 = .ok (.goto 4, 3) := by decide +kernel
theorem dL_change_229 : decode cL_change 229 = .ok (.iconst 1, 1) := by decide +kernel
theorem dL_change_230 : decode cL_change 230 = .ok (.if_icmp .eq 5, 3) := by decide +kernel
theorem dL_change_233 : decode cL_change 233 = .ok (.iconst 0, 1) := by decide +kernel
theorem dL_change_234 : decode cL_change 234 = .ok (.ireturn, 1) := by decide +kernel
theorem dL_change_235 : decode cL_change 235 = .ok (.aload 6, 2) := by decide +kernel
theorem dL_change_237 : decode cL_change 237 = .ok (.iload 7, 2) := by decide +kernel
theorem dL_change_239 : decode cL_change 239 = .ok (.iload 8, 2) := by decide +kernel
theorem dL_change_241 : decode cL_change 241 = .ok (.iastore, 1) := by decide +kernel
theorem dL_change_242 : decode cL_change 242 = .ok (.aload_n 3, 1) := by decide +kernel
theorem dL_change_243 : decode cL_change 243 = .ok (.iconst 2, 1) := by decide +kernel
theorem dL_change_244 : decode cL_change 244 = .ok (.iaload, 1) := by decide +kernel
theorem dL_change_245 : decode cL_change 245 = .ok (.bipush 6, 2) := by decide +kernel
theorem dL_change_247 : decode cL_change 247 = .ok (.if_icmp .ne 18, 3) := by decide +kernel
theorem dL_change_250 : decode cL_change 250 = .ok (.aload_n 0, 1) := by decide +kernel
theorem dL_change_251 : decode cL_change 251 = .ok (.iconst 5, 1) := by decide +kernel
theorem dL_change_252 : decode cL_change 252 = .ok (.invokevirtual 38, 3) := by decide +kernel
theorem dL_change_255 : decode cL_change 255 = .ok (.iconst 1, 1) := by decide +kernel
theorem dL_change_256 : decode cL_change 256 = .ok (.if_icmp .eq 5, 3) := by decide +kernel
theorem dL_change_259 : decode cL_change 259 = .ok (.iconst 0, 1) := by decide +kernel
theorem dL_change_260 : decode cL_change 260 = .ok (.ireturn, 1) := by decide +kernel
theorem dL_change_261 : decode cL_change 261 = .ok (.aload_n 3, 1) := by decide +kernel
theorem dL_change_262 : decode cL_change 262 = .ok (.iconst 2, 1) := by decide +kernel
theorem dL_change_263 : decode cL_change 263 = .ok (.iconst 1, 1) := by decide +kernel
theorem dL_change_264 : decode cL_change 264 = .ok (.iastore, 1) := by decide +kernel
theorem dL_change_265 : decode cL_change 265 = .ok (.iload_n 2, 1) := by decide +kernel
theorem dL_change_266 : decode cL_change 266 = .ok (.bipush 10, 2) := by decide +kernel
theorem dL_change_268 : decode cL_change 268 = .ok (.ishr, 1) := by decide +kernel
theorem dL_change_269 : decode cL_change 269 = .ok (.bipush 12, 2) := by decide +kernel
theorem dL_change_271 : decode cL_change 271 = .ok (.invokestatic 15, 3) := by decide +kernel
theorem dL_change_274 : decode cL_change 274 = .ok (.istore 7, 2) := by decide +kernel
theorem dL_change_276 : decode cL_change 276 = .ok (.iload_n 1, 1) := by decide +kernel
theorem dL_change_277 : decode cL_change 277 = .ok (.bipush 12, 2) := by decide +kernel
theorem dL_change_279 : decode cL_change 279 = .ok (.ishr, 1) := by decide +kernel
theorem dL_change_280 : decode cL_change 280 = .ok (.aload_n 3, 1) := by decide +kernel
theorem dL_change_281 : decode cL_change 281 = .ok (.iconst 0, 1) := by decide +kernel
theorem dL_change_282 : decode cL_change 282 = .ok (.iaload, 1) := by decide +kernel
theorem dL_change_283 : decode cL_change 283 = .ok (.invokestatic 15, 3) := by decide +kernel
theorem dL_change_286 : decode cL_change 286 = .ok (.istore 9, 2) := by decide +kernel
theorem dL_change_288 : decode cL_change 288 = .ok (.aload_n 0, 1) := by decide +kernel
theorem dL_change_289 : decode cL_change 289 = .ok (.iload 7, 2) := by decide +kernel
theorem dL_change_291 : decode cL_change 291 = .ok (.iload 9, 2) := by decide +kernel
theorem dL_change_293 : decode cL_change 293 = .ok (.invokevirtual 42, 3) := by decide +kernel
theorem dL_change_296 : decode cL_change 296 = .ok (.aload_n 3, 1) := by decide +kernel
theorem dL_change_297 : decode cL_change 297 = .ok (.iconst 2, 1) := by decide +kernel
theorem dL_change_298 : decode cL_change 298 = .ok (.iaload, 1) := by decide +kernel
theorem dL_change_299 : decode cL_change 299 = .ok (.if_icmp .eq 5, 3) := by decide +kernel
theorem dL_change_302 : decode cL_change 302 = .ok (.iconst 0, 1) := by decide +kernel
theorem dL_change_303 : decode cL_change 303 = .ok (.ireturn, 1) := by decide +kernel
theorem dL_change_304 : decode cL_change 304 = .ok (.aload_n 3, 1) := by decide +kernel
theorem dL_change_305 : decode cL_change 305 = .ok (.bipush 34, 2) := by decide +kernel
theorem dL_change_307 : decode cL_change 307 = .ok (.iconst 2, 1) := by decide +kernel
theorem dL_change_308 : decode cL_change 308 = .ok (.aload_n 3, 1) := by decide +kernel
theorem dL_change_309 : decode cL_change 309 = .ok (.iconst 2, 1) := by decide +kernel
theorem dL_change_310 : decode cL_change 310 = .ok (.iaload, 1) := by decide +kernel
theorem dL_change_311 : decode cL_change 311 = .ok (.imul, 1) := by decide +kernel
theorem dL_change_312 : decode cL_change 312 = .ok (.iadd, 1) := by decide +kernel
theorem dL_change_313 : decode cL_change 313 = .ok (.iload 7, 2) := by decide +kernel
theorem dL_change_315 : decode cL_change 315 = .ok (.iastore, 1) := by decide +kernel
theorem dL_change_316 : decode cL_change 316 = .ok (.aload_n 3, 1) := by decide +kernel
theorem dL_change_317 : decode cL_change 317 = .ok (.bipush 35, 2) := by decide +kernel
theorem dL_change_319 : decode cL_change 319 = .ok (.iconst 2, 1) := by decide +kernel
theorem dL_change_320 : decode cL_change 320 = .ok (.aload_n 3, 1) := by decide +kernel
theorem dL_change_321 : decode cL_change 321 = .ok (.iconst 2, 1) := by decide +kernel
theorem dL_change_322 : decode cL_change 322 = .ok (.iaload, 1) := by decide +kernel
theorem dL_change_323 : decode cL_change 323 = .ok (.imul, 1) := by decide +kernel
theorem dL_change_324 : decode cL_change 324 = .ok (.iadd, 1) := by decide +kernel
theorem dL_change_325 : decode cL_change 325 = .ok (.iload 9, 2) := by decide +kernel
theorem dL_change_327 : decode cL_change 327 = .ok (.iastore, 1) := by decide +kernel
theorem dL_change_328 : decode cL_change 328 = .ok (.aload_n 3, 1) := by decide +kernel
theorem dL_change_329 : decode cL_change 329 = .ok (.iconst 2, 1) := by decide +kernel
theorem dL_change_330 : decode cL_change 330 = .ok (.dup2, 1) := by decide +kernel
theorem dL_change_331 : decode cL_change 331 = .ok (.iaload, 1) := by decide +kernel
theorem dL_change_332 : decode cL_change 332 = .ok (.iconst 1, 1) := by decide +kernel
theorem dL_change_333 : decode cL_change 333 = .ok (.iadd, 1) := by decide +kernel
theorem dL_change_334 : decode cL_change 334 = .ok (.iastore, 1) := by decide +kernel
theorem dL_change_335 : decode cL_change 335 = .ok (.iload_n 2, 1) := by decide +kernel
theorem dL_change_336 : decode cL_change 336 = .ok (.bipush 13, 2) := by decide +kernel
theorem dL_change_338 : decode cL_change 338 = .ok (.ishr, 1) := by decide +kernel
theorem dL_change_339 : decode cL_change 339 = .ok (.aload_n 3, 1) := by decide +kernel
theorem dL_change_340 : decode cL_change 340 = .ok (.iconst 0, 1) := by decide +kernel
theorem dL_change_341 : decode cL_change 341 = .ok (.iaload, 1) := by decide +kernel
theorem dL_change_342 : decode cL_change 342 = .ok (.invokestatic 15, 3) := by decide +kernel
theorem dL_change_345 : decode cL_change 345 = .ok (.istore 9, 2) := by decide +kernel
theorem dL_change_347 : decode cL_change 347 = .ok (.iload_n 1, 1) := by decide +kernel
theorem dL_change_348 : decode cL_change 348 = .ok (.bipush 15, 2) := by decide +kernel
theorem dL_change_350 : decode cL_change 350 = .ok (.ishr, 1) := by decide +kernel
theorem dL_change_351 : decode cL_change 351 = .ok (.iconst 4, 1) := by decide +kernel
theorem dL_change_352 : decode cL_change 352 = .ok (.invokestatic 15, 3) := by decide +kernel
theorem dL_change_355 : decode cL_change 355 = .ok (.ifCond .ne 7, 3) := by decide +kernel
theorem dL_change_358 : decode cL_change 358 = .ok (.iconst 1, 1) := by decide +kernel
theorem dL_change_359 : decode cL_change 359 = .ok (.goto 4, 3) := by decide +kernel
theorem dL_change_362 : decode cL_change 362 = .ok (.iconst 0, 1) := by decide +kernel
theorem dL_change_363 : decode cL_change 363 = .ok (.istore 10, 2) := by decide +kernel
theorem dL_change_365 : decode cL_change 365 = .ok (.aload_n 0, 1) := by decide +kernel
theorem dL_change_366 : decode cL_change 366 = .ok (.iload 9, 2) := by decide +kernel
theorem dL_change_368 : decode cL_change 368 = .ok (.iload 10, 2) := by decide +kernel
theorem dL_change_370 : decode cL_change 370 = .ok (.invokevirtual 45, 3) := by decide +kernel
theorem dL_change_373 : decode cL_change 373 = .ok (.aload_n 3, 1) := by decide +kernel
theorem dL_change_374 : decode cL_change 374 = .ok (.bipush 21, 2) := by decide +kernel
theorem dL_change_376 : decode cL_change 376 = .ok (.iaload, 1) := by decide +kernel
theorem dL_change_377 : decode cL_change 377 = .ok (.iload 9, 2) := by decide +kernel
theorem dL_change_379 : decode cL_change 379 = .ok (.ishr, 1) := by decide +kernel
theorem dL_change_380 : decode cL_change 380 = .ok (.iconst 1, 1) := by decide +kernel
theorem dL_change_381 : decode cL_change 381 = .ok (.iand, 1) := by decide +kernel
theorem dL_change_382 : decode cL_change 382 = .ok (.iconst 1, 1) := by decide +kernel
theorem dL_change_383 : decode cL_change 383 = .ok (.if_icmp .ne 7, 3) := by decide +kernel
theorem dL_change_386 : decode cL_change 386 = .ok (.iconst 1, 1) := by decide +kernel
theorem dL_change_387 : decode cL_change 387 = .ok (.goto 4, 3) := by decide +kernel
theorem dL_change_390 : decode cL_change 390 = .ok (.iconst 0, 1) := by decide +kernel
theorem dL_change_391 : decode cL_change 391 = .ok (.iload 10, 2) := by decide +kernel
theorem dL_change_393 : decode cL_change 393 = .ok (.if_icmp .ne 7, 3) := by decide +kernel
theorem dL_change_396 : decode cL_change 396 = .ok (.iconst 0, 1) := by decide +kernel
theorem dL_change_397 : decode cL_change 397 = .ok (.goto 4, 3) := by decide +kernel
theorem dL_change_400 : decode cL_change 400 = .ok (.iconst 1, 1) := by decide +kernel
theorem dL_change_401 : decode cL_change 401 = .ok (.if_icmp .eq 5, 3) := by decide +kernel
theorem dL_change_404 : decode cL_change 404 = .ok (.iconst 0, 1) := by decide +kernel
theorem dL_change_405 : decode cL_change 405 = .ok (.ireturn, 1) := by decide +kernel
theorem dL_change_406 : decode cL_change 406 = .ok (.aload_n 3, 1) := by decide +kernel
theorem dL_change_407 : decode cL_change 407 = .ok (.bipush 21, 2) := by decide +kernel
theorem dL_change_409 : decode cL_change 409 = .ok (.iload 10, 2) := by decide +kernel
theorem dL_change_411 : decode cL_change 411 = .ok (.ifCond .eq 15, 3) := by decide +kernel
theorem dL_change_414 : decode cL_change 414 = .ok (.aload_n 3, 1) := by decide +kernel
theorem dL_change_415 : decode cL_change 415 = .ok (.bipush 21, 2) := by decide +kernel
theorem dL_change_417 : decode cL_change 417 = .ok (.iaload, 1) := by decide +kernel
theorem dL_change_418 : decode cL_change 418 = .ok (.iconst 1, 1) := by decide +kernel
theorem dL_change_419 : decode cL_change 419 = .ok (.iload 9, 2) := by decide +kernel
theorem dL_change_421 : decode cL_change 421 = .ok (.ishl, 1) := by decide +kernel
theorem dL_change_422 : decode cL_change 422 = .ok (.ior, 1) := by decide +kernel
theorem dL_change_423 : decode cL_change 423 = .ok (.goto 14, 3) := by decide +kernel
theorem dL_change_426 : decode cL_change 426 = .ok (.aload_n 3, 1) := by decide +kernel
theorem dL_change_427 : decode cL_change 427 = .ok (.bipush 21, 2) := by decide +kernel
theorem dL_change_429 : decode cL_change 429 = .ok (.iaload, 1) := by decide +kernel
theorem dL_change_430 : decode cL_change 430 = .ok (.iconst 1, 1) := by decide +kernel
theorem dL_change_431 : decode cL_change 431 = .ok (.iload 9, 2) := by decide +kernel
theorem dL_change_433 : decode cL_change 433 = .ok (.ishl, 1) := by decide +kernel
theorem dL_change_434 : decode cL_change 434 = .ok (.iconst (-1), 1) := by decide +kernel
theorem dL_change_435 : decode cL_change 435 = .ok (.ixor, 1) := by decide +kernel
theorem dL_change_436 : decode cL_change 436 = .ok (.iand, 1) := by decide +kernel
theorem dL_change_437 : decode cL_change 437 = .ok (.iastore, 1) := by decide +kernel
theorem dL_change_438 : decode cL_change 438 = .ok (.iconst 1, 1) := by decide +kernel
theorem dL_change_439 : decode cL_change 439 = .ok (.ireturn, 1) := by decide +kernel
theorem dL_wants_0 : decode cL_wants 0 = .ok (.aload_n 0, 1) := by decide +kernel
theorem dL_wants_1 : decode cL_wants 1 = .ok (.bipush 15, 2) := by decide +kernel
theorem dL_wants_3 : decode cL_wants 3 = .ok (.iload_n 1, 1) := by decide +kernel
theorem dL_wants_4 : decode cL_wants 4 = .ok (.iadd, 1) := by decide +kernel
theorem dL_wants_5 : decode cL_wants 5 = .ok (.iaload, 1) := by decide +kernel
theorem dL_wants_6 : decode cL_wants 6 = .ok (.aload_n 0, 1) := by decide +kernel
theorem dL_wants_7 : decode cL_wants 7 = .ok (.iconst 3, 1) := by decide +kernel
theorem dL_wants_8 : decode cL_wants 8 = .ok (.iload_n 1, 1) := by decide +kernel
theorem dL_wants_9 : decode cL_wants 9 = .ok (.iadd, 1) := by decide +kernel
theorem dL_wants_10 : decode cL_wants 10 = .ok (.iaload, 1) := by decide +kernel
theorem dL_wants_11 : decode cL_wants 11 = .ok (.ifCond .le 7, 3) := by decide +kernel
theorem dL_wants_14 : decode cL_wants 14 = .ok (.iconst 1, 1) := by decide +kernel
theorem dL_wants_15 : decode cL_wants 15 = .ok (.goto 4, 3) := by decide +kernel
theorem dL_wants_18 : decode cL_wants 18 = .ok (.iconst 0, 1) := by decide +kernel
theorem dL_wants_19 : decode cL_wants 19 = .ok (.iadd, 1) := by decide +kernel
theorem dL_wants_20 : decode cL_wants 20 = .ok (.istore_n 2, 1) := by decide +kernel
theorem dL_wants_21 : decode cL_wants 21 = .ok (.aload_n 0, 1) := by decide +kernel
theorem dL_wants_22 : decode cL_wants 22 = .ok (.iconst 3, 1) := by decide +kernel
theorem dL_wants_23 : decode cL_wants 23 = .ok (.iload_n 1, 1) := by decide +kernel
theorem dL_wants_24 : decode cL_wants 24 = .ok (.iadd, 1) := by decide +kernel
theorem dL_wants_25 : decode cL_wants 25 = .ok (.iaload, 1) := by decide +kernel
theorem dL_wants_26 : decode cL_wants 26 = .ok (.iconst 2, 1) := by decide +kernel
theorem dL_wants_27 : decode cL_wants 27 = .ok (.if_icmp .ne 9, 3) := by decide +kernel
theorem dL_wants_30 : decode cL_wants 30 = .ok (.iload_n 2, 1) := by decide +kernel
theorem dL_wants_31 : decode cL_wants 31 = .ok (.iload_n 2, 1) := by decide +kernel
theorem dL_wants_32 : decode cL_wants 32 = .ok (.iadd, 1) := by decide +kernel
theorem dL_wants_33 : decode cL_wants 33 = .ok (.goto 4, 3) := by decide +kernel
theorem dL_wants_36 : decode cL_wants 36 = .ok (.iload_n 2, 1) := by decide +kernel
theorem dL_wants_37 : decode cL_wants 37 = .ok (.ireturn, 1) := by decide +kernel
theorem dL_opens_0 : decode cL_opens 0 = .ok (.aload_n 0, 1) := by decide +kernel
theorem dL_opens_1 : decode cL_opens 1 = .ok (.iconst 3, 1) := by decide +kernel
theorem dL_opens_2 : decode cL_opens 2 = .ok (.iload_n 1, 1) := by decide +kernel
theorem dL_opens_3 : decode cL_opens 3 = .ok (.iadd, 1) := by decide +kernel
theorem dL_opens_4 : decode cL_opens 4 = .ok (.iaload, 1) := by decide +kernel
theorem dL_opens_5 : decode cL_opens 5 = .ok (.iconst 2, 1) := by decide +kernel
theorem dL_opens_6 : decode cL_opens 6 = .ok (.if_icmp .eq 37, 3) := by decide +kernel
theorem dL_opens_9 : decode cL_opens 9 = .ok (.aload_n 0, 1) := by decide +kernel
theorem dL_opens_10 : decode cL_opens 10 = .ok (.bipush 9, 2) := by decide +kernel
theorem dL_opens_12 : decode cL_opens 12 = .ok (.iload_n 1, 1) := by decide +kernel
theorem dL_opens_13 : decode cL_opens 13 = .ok (.iadd, 1) := by decide +kernel
theorem dL_opens_14 : decode cL_opens 14 = .ok (.iaload, 1) := by decide +kernel
theorem dL_opens_15 : decode cL_opens 15 = .ok (.iload_n 2, 1) := by decide +kernel
theorem dL_opens_16 : decode cL_opens 16 = .ok (.if_icmp .eq 27, 3) := by decide +kernel
theorem dL_opens_19 : decode cL_opens 19 = .ok (.aload_n 0, 1) := by decide +kernel
theorem dL_opens_20 : decode cL_opens 20 = .ok (.iconst 3, 1) := by decide +kernel
theorem dL_opens_21 : decode cL_opens 21 = .ok (.iload_n 1, 1) := by decide +kernel
theorem dL_opens_22 : decode cL_opens 22 = .ok (.iadd, 1) := by decide +kernel
theorem dL_opens_23 : decode cL_opens 23 = .ok (.iaload, 1) := by decide +kernel
theorem dL_opens_24 : decode cL_opens 24 = .ok (.iconst 1, 1) := by decide +kernel
theorem dL_opens_25 : decode cL_opens 25 = .ok (.if_icmp .ne 22, 3) := by decide +kernel
theorem dL_opens_28 : decode cL_opens 28 = .ok (.aload_n 0, 1) := by decide +kernel
theorem dL_opens_29 : decode cL_opens 29 = .ok (.bipush 9, 2) := by decide +kernel
theorem dL_opens_31 : decode cL_opens 31 = .ok (.iload_n 1, 1) := by decide +kernel
theorem dL_opens_32 : decode cL_opens 32 = .ok (.iadd, 1) := by decide +kernel
theorem dL_opens_33 : decode cL_opens 33 = .ok (.iaload, 1) := by decide +kernel
theorem dL_opens_34 : decode cL_opens 34 = .ok (.iconst 1, 1) := by decide +kernel
theorem dL_opens_35 : decode cL_opens 35 = .ok (.iadd, 1) := by decide +kernel
theorem dL_opens_36 : decode cL_opens 36 = .ok (.bipush 6, 2) := by decide +kernel
theorem dL_opens_38 : decode cL_opens 38 = .ok (.irem, 1) := by decide +kernel
theorem dL_opens_39 : decode cL_opens 39 = .ok (.iload_n 2, 1) := by decide +kernel
theorem dL_opens_40 : decode cL_opens 40 = .ok (.if_icmp .ne 7, 3) := by decide +kernel
theorem dL_opens_43 : decode cL_opens 43 = .ok (.iconst 1, 1) := by decide +kernel
theorem dL_opens_44 : decode cL_opens 44 = .ok (.goto 4, 3) := by decide +kernel
theorem dL_opens_47 : decode cL_opens 47 = .ok (.iconst 0, 1) := by decide +kernel
theorem dL_opens_48 : decode cL_opens 48 = .ok (.ireturn, 1) := by decide +kernel
theorem dL_go_0 : decode cL_go 0 = .ok (.iconst 0, 1) := by decide +kernel
theorem dL_go_1 : decode cL_go 1 = .ok (.istore 6, 2) := by decide +kernel
theorem dL_go_3 : decode cL_go 3 = .ok (.iload 6, 2) := by decide +kernel
theorem dL_go_5 : decode cL_go 5 = .ok (.bipush 18, 2) := by decide +kernel
theorem dL_go_7 : decode cL_go 7 = .ok (.if_icmp .ge 27, 3) := by decide +kernel
theorem dL_go_10 : decode cL_go 10 = .ok (.aload 5, 2) := by decide +kernel
theorem dL_go_12 : decode cL_go 12 = .ok (.iload 6, 2) := by decide +kernel
theorem dL_go_14 : decode cL_go 14 = .ok (.iload 6, 2) := by decide +kernel
theorem dL_go_16 : decode cL_go 16 = .ok (.bipush 6, 2) := by decide +kernel
theorem dL_go_18 : decode cL_go 18 = .ok (.if_icmp .ge 7, 3) := by decide +kernel
theorem dL_go_21 : decode cL_go 21 = .ok (.iconst 0, 1) := by decide +kernel
theorem dL_go_22 : decode cL_go 22 = .ok (.goto 5, 3) := by decide +kernel
theorem dL_go_25 : decode cL_go 25 = .ok (.bipush (-9), 2) := by decide +kernel
theorem dL_go_27 : decode cL_go 27 = .ok (.iastore, 1) := by decide +kernel
theorem dL_go_28 : decode cL_go 28 = .ok (.iinc 6 1, 3) := by decide +kernel
theorem dL_go_31 : decode cL_go 31 = .ok (.goto (-28), 3) := by decide +kernel
theorem dL_go_34 : decode cL_go 34 = .ok (.iconst 0, 1) := by decide +kernel
theorem dL_go_35 : decode cL_go 35 = .ok (.istore 6, 2) := by decide +kernel
theorem dL_go_37 : decode cL_go 37 = .ok (.iload 6, 2) := by decide +kernel
theorem dL_go_39 : decode cL_go 39 = .ok (.iload 4, 2) := by decide +kernel
theorem dL_go_41 : decode cL_go 41 = .ok (.if_icmp .gt 305, 3) := by decide +kernel
theorem dL_go_44 : decode cL_go 44 = .ok (.iconst 0, 1) := by decide +kernel
theorem dL_go_45 : decode cL_go 45 = .ok (.istore 7, 2) := by decide +kernel
theorem dL_go_47 : decode cL_go 47 = .ok (.iload 7, 2) := by decide +kernel
theorem dL_go_49 : decode cL_go 49 = .ok (.aload_n 0, 1) := by decide +kernel
theorem dL_go_50 : decode cL_go 50 = .ok (.iconst 0, 1) := by decide +kernel
theorem dL_go_51 : decode cL_go 51 = .ok (.iaload, 1) := by decide +kernel
theorem dL_go_52 : decode cL_go 52 = .ok (.if_icmp .ge 43, 3) := by decide +kernel
theorem dL_go_55 : decode cL_go 55 = .ok (.aload_n 3, 1) := by decide +kernel
theorem dL_go_56 : decode cL_go 56 = .ok (.iload 6, 2) := by decide +kernel
theorem dL_go_58 : decode cL_go 58 = .ok (.iaload, 1) := by decide +kernel
theorem dL_go_59 : decode cL_go 59 = .ok (.ifCond .ne 30, 3) := by decide +kernel
theorem dL_go_62 : decode cL_go 62 = .ok (.aload 5, 2) := by decide +kernel
theorem dL_go_64 : decode cL_go 64 = .ok (.iload 7, 2) := by decide +kernel
theorem dL_go_66 : decode cL_go 66 = .ok (.dup2, 1) := by decide +kernel
theorem dL_go_67 : decode cL_go 67 = .ok (.iaload, 1) := by decide +kernel
theorem dL_go_68 : decode cL_go 68 = .ok (.aload_n 1, 1) := by decide +kernel
theorem dL_go_69 : decode cL_go 69 = .ok (.iload 6, 2) := by decide +kernel
theorem dL_go_71 : decode cL_go 71 = .ok (.iaload, 1) := by decide +kernel
theorem dL_go_72 : decode cL_go 72 = .ok (.aload_n 2, 1) := by decide +kernel
theorem dL_go_73 : decode cL_go 73 = .ok (.iload 6, 2) := by decide +kernel
theorem dL_go_75 : decode cL_go 75 = .ok (.iaload, 1) := by decide +kernel
theorem dL_go_76 : decode cL_go 76 = .ok (.iload 7, 2) := by decide +kernel
theorem dL_go_78 : decode cL_go 78 = .ok (.if_icmp .ne 7, 3) := by decide +kernel
theorem dL_go_81 : decode cL_go 81 = .ok (.iconst 3, 1) := by decide +kernel
theorem dL_go_82 : decode cL_go 82 = .ok (.goto 4, 3) := by decide +kernel
theorem dL_go_85 : decode cL_go 85 = .ok (.iconst 0, 1) := by decide +kernel
theorem dL_go_86 : decode cL_go 86 = .ok (.iadd, 1) := by decide +kernel
theorem dL_go_87 : decode cL_go 87 = .ok (.iadd, 1) := by decide +kernel
theorem dL_go_88 : decode cL_go 88 = .ok (.iastore, 1) := by decide +kernel
theorem dL_go_89 : decode cL_go 89 = .ok (.iinc 7 1, 3) := by decide +kernel
theorem dL_go_92 : decode cL_go 92 = .ok (.goto (-45), 3) := by decide +kernel
theorem dL_go_95 : decode cL_go 95 = .ok (.iconst 0, 1) := by decide +kernel
theorem dL_go_96 : decode cL_go 96 = .ok (.istore 7, 2) := by decide +kernel
theorem dL_go_98 : decode cL_go 98 = .ok (.iload 7, 2) := by decide +kernel
theorem dL_go_100 : decode cL_go 100 = .ok (.aload_n 0, 1) := by decide +kernel
theorem dL_go_101 : decode cL_go 101 = .ok (.iconst 2, 1) := by decide +kernel
theorem dL_go_102 : decode cL_go 102 = .ok (.iaload, 1) := by decide +kernel
theorem dL_go_103 : decode cL_go 103 = .ok (.if_icmp .ge 64, 3) := by decide +kernel
theorem dL_go_106 : decode cL_go 106 = .ok (.aload_n 0, 1) := by decide +kernel
theorem dL_go_107 : decode cL_go 107 = .ok (.bipush 34, 2) := by decide +kernel
theorem dL_go_109 : decode cL_go 109 = .ok (.iconst 2, 1) := by decide +kernel
theorem dL_go_110 : decode cL_go 110 = .ok (.iload 7, 2) := by decide +kernel
theorem dL_go_112 : decode cL_go 112 = .ok (.imul, 1) := by decide +kernel
theorem dL_go_113 : decode cL_go 113 = .ok (.iadd, 1) := by decide +kernel
theorem dL_go_114 : decode cL_go 114 = .ok (.iaload, 1) := by decide +kernel
theorem dL_go_115 : decode cL_go 115 = .ok (.iload 6, 2) := by decide +kernel
theorem dL_go_117 : decode cL_go 117 = .ok (.if_icmp .ne 44, 3) := by decide +kernel
theorem dL_go_120 : decode cL_go 120 = .ok (.aload 5, 2) := by decide +kernel
theorem dL_go_122 : decode cL_go 122 = .ok (.aload_n 0, 1) := by decide +kernel
theorem dL_go_123 : decode cL_go 123 = .ok (.bipush 35, 2) := by decide +kernel
theorem dL_go_125 : decode cL_go 125 = .ok (.iconst 2, 1) := by decide +kernel
theorem dL_go_126 : decode cL_go 126 = .ok (.iload 7, 2) := by decide +kernel
theorem dL_go_128 : decode cL_go 128 = .ok (.imul, 1) := by decide +kernel
theorem dL_go_129 : decode cL_go 129 = .ok (.iadd, 1) := by decide +kernel
theorem dL_go_130 : decode cL_go 130 = .ok (.iaload, 1) := by decide +kernel
theorem dL_go_131 : decode cL_go 131 = .ok (.iaload, 1) := by decide +kernel
theorem dL_go_132 : decode cL_go 132 = .ok (.aload_n 0, 1) := by decide +kernel
theorem dL_go_133 : decode cL_go 133 = .ok (.aload_n 0, 1) := by decide +kernel
theorem dL_go_134 : decode cL_go 134 = .ok (.bipush 35, 2) := by decide +kernel
theorem dL_go_136 : decode cL_go 136 = .ok (.iconst 2, 1) := by decide +kernel
theorem dL_go_137 : decode cL_go 137 = .ok (.iload 7, 2) := by decide +kernel
theorem dL_go_139 : decode cL_go 139 = .ok (.imul, 1) := by decide +kernel
theorem dL_go_140 : decode cL_go 140 = .ok (.iadd, 1) := by decide +kernel
theorem dL_go_141 : decode cL_go 141 = .ok (.iaload, 1) := by decide +kernel
theorem dL_go_142 : decode cL_go 142 = .ok (.invokestatic 48, 3) := by decide +kernel
theorem dL_go_145 : decode cL_go 145 = .ok (.if_icmp .lt 16, 3) := by decide +kernel
theorem dL_go_148 : decode cL_go 148 = .ok (.aload 5, 2) := by decide +kernel
theorem dL_go_150 : decode cL_go 150 = .ok (.aload_n 0, 1) := by decide +kernel
theorem dL_go_151 : decode cL_go 151 = .ok (.bipush 35, 2) := by decide +kernel
theorem dL_go_153 : decode cL_go 153 = .ok (.iconst 2, 1) := by decide +kernel
theorem dL_go_154 : decode cL_go 154 = .ok (.iload 7, 2) := by decide +kernel
theorem dL_go_156 : decode cL_go 156 = .ok (.imul, 1) := by decide +kernel
theorem dL_go_157 : decode cL_go 157 = .ok (.iadd, 1) := by decide +kernel
theorem dL_go_158 : decode cL_go 158 = .ok (.iaload, 1) := by decide +kernel
theorem dL_go_159 : decode cL_go 159 = .ok (.iconst 0, 1) := by decide +kernel
theorem dL_go_160 : decode cL_go 160 = .ok (.iastore, 1) := by decide +kernel
theorem dL_go_161 : decode cL_go 161 = .ok (.iinc 7 1, 3) := by decide +kernel
theorem dL_go_164 : decode cL_go 164 = .ok (.goto (-66), 3) := by decide +kernel
theorem dL_go_167 : decode cL_go 167 = .ok (.iconst 0, 1) := by decide +kernel
theorem dL_go_168 : decode cL_go 168 = .ok (.istore 7, 2) := by decide +kernel
theorem dL_go_170 : decode cL_go 170 = .ok (.iload 7, 2) := by decide +kernel
theorem dL_go_172 : decode cL_go 172 = .ok (.aload_n 0, 1) := by decide +kernel
theorem dL_go_173 : decode cL_go 173 = .ok (.iconst 0, 1) := by decide +kernel
theorem dL_go_174 : decode cL_go 174 = .ok (.iaload, 1) := by decide +kernel
theorem dL_go_175 : decode cL_go 175 = .ok (.if_icmp .ge 115, 3) := by decide +kernel
theorem dL_go_178 : decode cL_go 178 = .ok (.aload_n 0, 1) := by decide +kernel
theorem dL_go_179 : decode cL_go 179 = .ok (.bipush 21, 2) := by decide +kernel
theorem dL_go_181 : decode cL_go 181 = .ok (.iaload, 1) := by decide +kernel
theorem dL_go_182 : decode cL_go 182 = .ok (.iload 7, 2) := by decide +kernel
theorem dL_go_184 : decode cL_go 184 = .ok (.ishr, 1) := by decide +kernel
theorem dL_go_185 : decode cL_go 185 = .ok (.iconst 1, 1) := by decide +kernel
theorem dL_go_186 : decode cL_go 186 = .ok (.iand, 1) := by decide +kernel
theorem dL_go_187 : decode cL_go 187 = .ok (.iconst 1, 1) := by decide +kernel
theorem dL_go_188 : decode cL_go 188 = .ok (.if_icmp .eq 96, 3) := by decide +kernel
theorem dL_go_191 : decode cL_go 191 = .ok (.aload 5, 2) := by decide +kernel
theorem dL_go_193 : decode cL_go 193 = .ok (.iload 7, 2) := by decide +kernel
theorem dL_go_195 : decode cL_go 195 = .ok (.iaload, 1) := by decide +kernel
theorem dL_go_196 : decode cL_go 196 = .ok (.aload_n 0, 1) := by decide +kernel
theorem dL_go_197 : decode cL_go 197 = .ok (.iload 7, 2) := by decide +kernel
theorem dL_go_199 : decode cL_go 199 = .ok (.invokestatic 48, 3) := by decide +kernel
theorem dL_go_202 : decode cL_go 202 = .ok (.if_icmp .ge 6, 3) := by decide +kernel
theorem dL_go_205 : decode cL_go 205 = .ok (.goto 79, 3) := by decide +kernel
theorem dL_go_208 : decode cL_go 208 = .ok (.iconst 0, 1) := by decide +kernel
theorem dL_go_209 : decode cL_go 209 = .ok (.istore 8, 2) := by decide +kernel
theorem dL_go_211 : decode cL_go 211 = .ok (.iload 8, 2) := by decide +kernel
theorem dL_go_213 : decode cL_go 213 = .ok (.aload_n 0, 1) := by decide +kernel
theorem dL_go_214 : decode cL_go 214 = .ok (.iconst 1, 1) := by decide +kernel
theorem dL_go_215 : decode cL_go 215 = .ok (.iaload, 1) := by decide +kernel
theorem dL_go_216 : decode cL_go 216 = .ok (.if_icmp .ge 68, 3) := by decide +kernel
theorem dL_go_219 : decode cL_go 219 = .ok (.aload 5, 2) := by decide +kernel
theorem dL_go_221 : decode cL_go 221 = .ok (.bipush 6, 2) := by decide +kernel
theorem dL_go_223 : decode cL_go 223 = .ok (.iload 8, 2) := by decide +kernel
theorem dL_go_225 : decode cL_go 225 = .ok (.iadd, 1) := by decide +kernel
theorem dL_go_226 : decode cL_go 226 = .ok (.iaload, 1) := by decide +kernel
theorem dL_go_227 : decode cL_go 227 = .ok (.ifCond .ge 51, 3) := by decide +kernel
theorem dL_go_230 : decode cL_go 230 = .ok (.aload_n 0, 1) := by decide +kernel
theorem dL_go_231 : decode cL_go 231 = .ok (.iload 7, 2) := by decide +kernel
theorem dL_go_233 : decode cL_go 233 = .ok (.aload_n 0, 1) := by decide +kernel
theorem dL_go_234 : decode cL_go 234 = .ok (.bipush 22, 2) := by decide +kernel
theorem dL_go_236 : decode cL_go 236 = .ok (.iload 8, 2) := by decide +kernel
theorem dL_go_238 : decode cL_go 238 = .ok (.iadd, 1) := by decide +kernel
theorem dL_go_239 : decode cL_go 239 = .ok (.iaload, 1) := by decide +kernel
theorem dL_go_240 : decode cL_go 240 = .ok (.invokestatic 51, 3) := by decide +kernel
theorem dL_go_243 : decode cL_go 243 = .ok (.ifCond .ne 6, 3) := by decide +kernel
theorem dL_go_246 : decode cL_go 246 = .ok (.goto 32, 3) := by decide +kernel
theorem dL_go_249 : decode cL_go 249 = .ok (.aload 5, 2) := by decide +kernel
theorem dL_go_251 : decode cL_go 251 = .ok (.bipush 6, 2) := by decide +kernel
theorem dL_go_253 : decode cL_go 253 = .ok (.iload 8, 2) := by decide +kernel
theorem dL_go_255 : decode cL_go 255 = .ok (.iadd, 1) := by decide +kernel
theorem dL_go_256 : decode cL_go 256 = .ok (.iload 6, 2) := by decide +kernel
theorem dL_go_258 : decode cL_go 258 = .ok (.iastore, 1) := by decide +kernel
theorem dL_go_259 : decode cL_go 259 = .ok (.aload 5, 2) := by decide +kernel
theorem dL_go_261 : decode cL_go 261 = .ok (.bipush 12, 2) := by decide +kernel
theorem dL_go_263 : decode cL_go 263 = .ok (.iload 8, 2) := by decide +kernel
theorem dL_go_265 : decode cL_go 265 = .ok (.iadd, 1) := by decide +kernel
theorem dL_go_266 : decode cL_go 266 = .ok (.iload 7, 2) := by decide +kernel
theorem dL_go_268 : decode cL_go 268 = .ok (.iastore, 1) := by decide +kernel
theorem dL_go_269 : decode cL_go 269 = .ok (.aload 5, 2) := by decide +kernel
theorem dL_go_271 : decode cL_go 271 = .ok (.iload 7, 2) := by decide +kernel
theorem dL_go_273 : decode cL_go 273 = .ok (.iconst 0, 1) := by decide +kernel
theorem dL_go_274 : decode cL_go 274 = .ok (.iastore, 1) := by decide +kernel
theorem dL_go_275 : decode cL_go 275 = .ok (.goto 9, 3) := by decide +kernel
theorem dL_go_278 : decode cL_go 278 = .ok (.iinc 8 1, 3) := by decide +kernel
theorem dL_go_281 : decode cL_go 281 = .ok (.goto (-70), 3) := by decide +kernel
theorem dL_go_284 : decode cL_go 284 = .ok (.iinc 7 1, 3) := by decide +kernel
theorem dL_go_287 : decode cL_go 287 = .ok (.goto (-117), 3) := by decide +kernel
theorem dL_go_290 : decode cL_go 290 = .ok (.iconst 0, 1) := by decide +kernel
theorem dL_go_291 : decode cL_go 291 = .ok (.istore 7, 2) := by decide +kernel
theorem dL_go_293 : decode cL_go 293 = .ok (.iload 7, 2) := by decide +kernel
theorem dL_go_295 : decode cL_go 295 = .ok (.aload_n 0, 1) := by decide +kernel
theorem dL_go_296 : decode cL_go 296 = .ok (.iconst 1, 1) := by decide +kernel
theorem dL_go_297 : decode cL_go 297 = .ok (.iaload, 1) := by decide +kernel
theorem dL_go_298 : decode cL_go 298 = .ok (.if_icmp .ge 42, 3) := by decide +kernel
theorem dL_go_301 : decode cL_go 301 = .ok (.aload 5, 2) := by decide +kernel
theorem dL_go_303 : decode cL_go 303 = .ok (.bipush 6, 2) := by decide +kernel
theorem dL_go_305 : decode cL_go 305 = .ok (.iload 7, 2) := by decide +kernel
theorem dL_go_307 : decode cL_go 307 = .ok (.iadd, 1) := by decide +kernel
theorem dL_go_308 : decode cL_go 308 = .ok (.iaload, 1) := by decide +kernel
theorem dL_go_309 : decode cL_go 309 = .ok (.ifCond .ge 25, 3) := by decide +kernel
theorem dL_go_312 : decode cL_go 312 = .ok (.aload_n 0, 1) := by decide +kernel
theorem dL_go_313 : decode cL_go 313 = .ok (.bipush 28, 2) := by decide +kernel
theorem dL_go_315 : decode cL_go 315 = .ok (.iload 7, 2) := by decide +kernel
theorem dL_go_317 : decode cL_go 317 = .ok (.iadd, 1) := by decide +kernel
theorem dL_go_318 : decode cL_go 318 = .ok (.iaload, 1) := by decide +kernel
theorem dL_go_319 : decode cL_go 319 = .ok (.iload 6, 2) := by decide +kernel
theorem dL_go_321 : decode cL_go 321 = .ok (.if_icmp .ne 13, 3) := by decide +kernel
theorem dL_go_324 : decode cL_go 324 = .ok (.aload 5, 2) := by decide +kernel
theorem dL_go_326 : decode cL_go 326 = .ok (.bipush 6, 2) := by decide +kernel
theorem dL_go_328 : decode cL_go 328 = .ok (.iload 7, 2) := by decide +kernel
theorem dL_go_330 : decode cL_go 330 = .ok (.iadd, 1) := by decide +kernel
theorem dL_go_331 : decode cL_go 331 = .ok (.iload 6, 2) := by decide +kernel
theorem dL_go_333 : decode cL_go 333 = .ok (.iastore, 1) := by decide +kernel
theorem dL_go_334 : decode cL_go 334 = .ok (.iinc 7 1, 3) := by decide +kernel
theorem dL_go_337 : decode cL_go 337 = .ok (.goto (-44), 3) := by decide +kernel
theorem dL_go_340 : decode cL_go 340 = .ok (.iinc 6 1, 3) := by decide +kernel
theorem dL_go_343 : decode cL_go 343 = .ok (.goto (-306), 3) := by decide +kernel
theorem dL_go_346 : decode cL_go 346 = .ok (.return_, 1) := by decide +kernel
