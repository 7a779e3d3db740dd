theorem dL_holds_42 : decode cL_holds 42 = .ok (.newarray .int, 2) := by decide +kernel
theorem dL_holds_44 : decode cL_holds 44 = .ok (.astore 7, 2) := by decide +kernel
theorem dL_holds_46 : decode cL_holds 46 = .ok (.iconst 5, 1) := by decide +kernel
theorem dL_holds_47 : decode cL_holds 47 = .ok (.newarray .int, 2) := by decide +kernel
theorem dL_holds_49 : decode cL_holds 49 = .ok (.astore 8, 2) := by decide +kernel
theorem dL_holds_51 : decode cL_holds 51 = .ok (.iconst 5, 1) := by decide +kernel
theorem dL_holds_52 : decode cL_holds 52 = .ok (.newarray .int, 2) := by decide +kernel
theorem dL_holds_54 : decode cL_holds 54 = .ok (.astore 9, 2) := by decide +kernel
theorem dL_holds_56 : decode cL_holds 56 = .ok (.iconst 5, 1) := by decide +kernel
theorem dL_holds_57 : decode cL_holds 57 = .ok (.newarray .int, 2) := by decide +kernel
theorem dL_holds_59 : decode cL_holds 59 = .ok (.astore 10, 2) := by decide +kernel
theorem dL_holds_61 : decode cL_holds 61 = .ok (.bipush 100, 2) := by decide +kernel
theorem dL_holds_63 : decode cL_holds 63 = .ok (.newarray .int, 2) := by decide +kernel
theorem dL_holds_65 : decode cL_holds 65 = .ok (.astore 11, 2) := by decide +kernel
theorem dL_holds_67 : decode cL_holds 67 = .ok (.bipush 20, 2) := by decide +kernel
theorem dL_holds_69 : decode cL_holds 69 = .ok (.newarray .int, 2) := by decide +kernel
theorem dL_holds_71 : decode cL_holds 71 = .ok (.astore 12, 2) := by decide +kernel
theorem dL_holds_73 : decode cL_holds 73 = .ok (.iconst 0, 1) := by decide +kernel
theorem dL_holds_74 : decode cL_holds 74 = .ok (.istore 13, 2) := by decide +kernel
theorem dL_holds_76 : decode cL_holds 76 = .ok (.iconst 0, 1) := by decide +kernel
theorem dL_holds_77 : decode cL_holds 77 = .ok (.istore 14, 2) := by decide +kernel
theorem dL_holds_79 : decode cL_holds 79 = .ok (.iconst 0, 1) := by decide +kernel
theorem dL_holds_80 : decode cL_holds 80 = .ok (.istore 15, 2) := by decide +kernel
theorem dL_holds_82 : decode cL_holds 82 = .ok (.iconst 0, 1) := by decide +kernel
theorem dL_holds_83 : decode cL_holds 83 = .ok (.istore 16, 2) := by decide +kernel
theorem dL_holds_85 : decode cL_holds 85 = .ok (.iload 16, 2) := by decide +kernel
theorem dL_holds_87 : decode cL_holds 87 = .ok (.iload 4, 2) := by decide +kernel
theorem dL_holds_89 : decode cL_holds 89 = .ok (.if_icmp .ge 277, 3) := by decide +kernel
theorem dL_holds_92 : decode cL_holds 92 = .ok (.aload_n 0, 1) := by decide +kernel
theorem dL_holds_93 : decode cL_holds 93 = .ok (.iload 16, 2) := by decide +kernel
theorem dL_holds_95 : decode cL_holds 95 = .ok (.invokevirtual 281, 3) := by decide +kernel
theorem dL_holds_98 : decode cL_holds 98 = .ok (.istore 17, 2) := by decide +kernel
theorem dL_holds_100 : decode cL_holds 100 = .ok (.aload_n 1, 1) := by decide +kernel
theorem dL_holds_101 : decode cL_holds 101 = .ok (.iload 17, 2) := by decide +kernel
theorem dL_holds_103 : decode cL_holds 103 = .ok (.invokestatic 112, 3) := by decide +kernel
theorem dL_holds_106 : decode cL_holds 106 = .ok (.istore 18, 2) := by decide +kernel
theorem dL_holds_108 : decode cL_holds 108 = .ok (.aload_n 1, 1) := by decide +kernel
theorem dL_holds_109 : decode cL_holds 109 = .ok (.iload 17, 2) := by decide +kernel
theorem dL_holds_111 : decode cL_holds 111 = .ok (.invokestatic 109, 3) := by decide +kernel
theorem dL_holds_114 : decode cL_holds 114 = .ok (.istore 19, 2) := by decide +kernel
theorem dL_holds_116 : decode cL_holds 116 = .ok (.aload_n 1, 1) := by decide +kernel
theorem dL_holds_117 : decode cL_holds 117 = .ok (.aload_n 3, 1) := by decide +kernel
theorem dL_holds_118 : decode cL_holds 118 = .ok (.iload 16, 2) := by decide +kernel
theorem dL_holds_120 : decode cL_holds 120 = .ok (.iaload, 1) := by decide +kernel
theorem dL_holds_121 : decode cL_holds 121 = .ok (.invokestatic 181, 3) := by decide +kernel
theorem dL_holds_124 : decode cL_holds 124 = .ok (.istore 20, 2) := by decide +kernel
theorem dL_holds_126 : decode cL_holds 126 = .ok (.aload 6, 2) := by decide +kernel
theorem dL_holds_128 : decode cL_holds 128 = .ok (.iload 17, 2) := by decide +kernel
theorem dL_holds_130 : decode cL_holds 130 = .ok (.dup2, 1) := by decide +kernel
theorem dL_holds_131 : decode cL_holds 131 = .ok (.iaload, 1) := by decide +kernel
theorem dL_holds_132 : decode cL_holds 132 = .ok (.aload_n 2, 1) := by decide +kernel
theorem dL_holds_133 : decode cL_holds 133 = .ok (.iload 16, 2) := by decide +kernel
theorem dL_holds_135 : decode cL_holds 135 = .ok (.iaload, 1) := by decide +kernel
theorem dL_holds_136 : decode cL_holds 136 = .ok (.iadd, 1) := by decide +kernel
theorem dL_holds_137 : decode cL_holds 137 = .ok (.iastore, 1) := by decide +kernel
theorem dL_holds_138 : decode cL_holds 138 = .ok (.aload 6, 2) := by decide +kernel
theorem dL_holds_140 : decode cL_holds 140 = .ok (.iload 17, 2) := by decide +kernel
theorem dL_holds_142 : decode cL_holds 142 = .ok (.iaload, 1) := by decide +kernel
theorem dL_holds_143 : decode cL_holds 143 = .ok (.aload_n 1, 1) := by decide +kernel
theorem dL_holds_144 : decode cL_holds 144 = .ok (.iload 17, 2) := by decide +kernel
theorem dL_holds_146 : decode cL_holds 146 = .ok (.invokestatic 115, 3) := by decide +kernel
theorem dL_holds_149 : decode cL_holds 149 = .ok (.aload_n 1, 1) := by decide +kernel
theorem dL_holds_150 : decode cL_holds 150 = .ok (.invokestatic 66, 3) := by decide +kernel
theorem dL_holds_153 : decode cL_holds 153 = .ok (.imul, 1) := by decide +kernel
theorem dL_holds_154 : decode cL_holds 154 = .ok (.if_icmp .le 12, 3) := by decide +kernel
theorem dL_holds_157 : decode cL_holds 157 = .ok (.aload_n 1, 1) := by decide +kernel
theorem dL_holds_158 : decode cL_holds 158 = .ok (.invokestatic 51, 3) := by decide +kernel
theorem dL_holds_161 : decode cL_holds 161 = .ok (.iconst 1, 1) := by decide +kernel
theorem dL_holds_162 : decode cL_holds 162 = .ok (.isub, 1) := by decide +kernel
theorem dL_holds_163 : decode cL_holds 163 = .ok (.goto 5, 3) := by decide +kernel
theorem dL_holds_166 : decode cL_holds 166 = .ok (.iload 20, 2) := by decide +kernel
theorem dL_holds_168 : decode cL_holds 168 = .ok (.istore 21, 2) := by decide +kernel
theorem dL_holds_170 : decode cL_holds 170 = .ok (.aload_n 0, 1) := by decide +kernel
theorem dL_holds_171 : decode cL_holds 171 = .ok (.iload 16, 2) := by decide +kernel
theorem dL_holds_173 : decode cL_holds 173 = .ok (.invokevirtual 200, 3) := by decide +kernel
theorem dL_holds_176 : decode cL_holds 176 = .ok (.iload 21, 2) := by decide +kernel
theorem dL_holds_178 : decode cL_holds 178 = .ok (.if_icmp .ne 24, 3) := by decide +kernel
theorem dL_holds_181 : decode cL_holds 181 = .ok (.aload_n 0, 1) := by decide +kernel
theorem dL_holds_182 : decode cL_holds 182 = .ok (.iload 16, 2) := by decide +kernel
theorem dL_holds_184 : decode cL_holds 184 = .ok (.invokevirtual 284, 3) := by decide +kernel
theorem dL_holds_187 : decode cL_holds 187 = .ok (.iload 21, 2) := by decide +kernel
theorem dL_holds_189 : decode cL_holds 189 = .ok (.iload 20, 2) := by decide +kernel
theorem dL_holds_191 : decode cL_holds 191 = .ok (.if_icmp .eq 7, 3) := by decide +kernel
theorem dL_holds_194 : decode cL_holds 194 = .ok (.iconst 1, 1) := by decide +kernel
theorem dL_holds_195 : decode cL_holds 195 = .ok (.goto 4, 3) := by decide +kernel
theorem dL_holds_198 : decode cL_holds 198 = .ok (.iconst 0, 1) := by decide +kernel
theorem dL_holds_199 : decode cL_holds 199 = .ok (.if_icmp .eq 5, 3) := by decide +kernel
theorem dL_holds_202 : decode cL_holds 202 = .ok (.iconst 0, 1) := by decide +kernel
theorem dL_holds_203 : decode cL_holds 203 = .ok (.ireturn, 1) := by decide +kernel
theorem dL_holds_204 : decode cL_holds 204 = .ok (.aload_n 0, 1) := by decide +kernel
theorem dL_holds_205 : decode cL_holds 205 = .ok (.iload 16, 2) := by decide +kernel
theorem dL_holds_207 : decode cL_holds 207 = .ok (.invokevirtual 203, 3) := by decide +kernel
theorem dL_holds_210 : decode cL_holds 210 = .ok (.ifCond .ne 27, 3) := by decide +kernel
theorem dL_holds_213 : decode cL_holds 213 = .ok (.aload_n 0, 1) := by decide +kernel
theorem dL_holds_214 : decode cL_holds 214 = .ok (.iload 16, 2) := by decide +kernel
theorem dL_holds_216 : decode cL_holds 216 = .ok (.invokevirtual 190, 3) := by decide +kernel
theorem dL_holds_219 : decode cL_holds 219 = .ok (.aload_n 2, 1) := by decide +kernel
theorem dL_holds_220 : decode cL_holds 220 = .ok (.iload 16, 2) := by decide +kernel
theorem dL_holds_222 : decode cL_holds 222 = .ok (.iaload, 1) := by decide +kernel
theorem dL_holds_223 : decode cL_holds 223 = .ok (.aload_n 0, 1) := by decide +kernel
theorem dL_holds_224 : decode cL_holds 224 = .ok (.iload 18, 2) := by decide +kernel
theorem dL_holds_226 : decode cL_holds 226 = .ok (.iload 21, 2) := by decide +kernel
theorem dL_holds_228 : decode cL_holds 228 = .ok (.invokevirtual 160, 3) := by decide +kernel
theorem dL_holds_231 : decode cL_holds 231 = .ok (.imul, 1) := by decide +kernel
theorem dL_holds_232 : decode cL_holds 232 = .ok (.if_icmp .eq 5, 3) := by decide +kernel
theorem dL_holds_235 : decode cL_holds 235 = .ok (.iconst 0, 1) := by decide +kernel
theorem dL_holds_236 : decode cL_holds 236 = .ok (.ireturn, 1) := by decide +kernel
theorem dL_holds_237 : decode cL_holds 237 = .ok (.aload_n 0, 1) := by decide +kernel
theorem dL_holds_238 : decode cL_holds 238 = .ok (.iload 16, 2) := by decide +kernel
theorem dL_holds_240 : decode cL_holds 240 = .ok (.invokevirtual 203, 3) := by decide +kernel
theorem dL_holds_243 : decode cL_holds 243 = .ok (.ifCond .eq 8, 3) := by decide +kernel
theorem dL_holds_246 : decode cL_holds 246 = .ok (.aload 8, 2) := by decide +kernel
theorem dL_holds_248 : decode cL_holds 248 = .ok (.goto 5, 3) := by decide +kernel
theorem dL_holds_251 : decode cL_holds 251 = .ok (.aload 7, 2) := by decide +kernel
theorem dL_holds_253 : decode cL_holds 253 = .ok (.iload 19, 2) := by decide +kernel
theorem dL_holds_255 : decode cL_holds 255 = .ok (.dup2, 1) := by decide +kernel
theorem dL_holds_256 : decode cL_holds 256 = .ok (.iaload, 1) := by decide +kernel
theorem dL_holds_257 : decode cL_holds 257 = .ok (.aload_n 0, 1) := by decide +kernel
theorem dL_holds_258 : decode cL_holds 258 = .ok (.iload 16, 2) := by decide +kernel
theorem dL_holds_260 : decode cL_holds 260 = .ok (.invokevirtual 190, 3) := by decide +kernel
theorem dL_holds_263 : decode cL_holds 263 = .ok (.iadd, 1) := by decide +kernel
theorem dL_holds_264 : decode cL_holds 264 = .ok (.iastore, 1) := by decide +kernel
theorem dL_holds_265 : decode cL_holds 265 = .ok (.aload 9, 2) := by decide +kernel
theorem dL_holds_267 : decode cL_holds 267 = .ok (.iload 19, 2) := by decide +kernel
theorem dL_holds_269 : decode cL_holds 269 = .ok (.dup2, 1) := by decide +kernel
theorem dL_holds_270 : decode cL_holds 270 = .ok (.iaload, 1) := by decide +kernel
theorem dL_holds_271 : decode cL_holds 271 = .ok (.aload_n 2, 1) := by decide +kernel
theorem dL_holds_272 : decode cL_holds 272 = .ok (.iload 16, 2) := by decide +kernel
theorem dL_holds_274 : decode cL_holds 274 = .ok (.iaload, 1) := by decide +kernel
theorem dL_holds_275 : decode cL_holds 275 = .ok (.iadd, 1) := by decide +kernel
theorem dL_holds_276 : decode cL_holds 276 = .ok (.iastore, 1) := by decide +kernel
theorem dL_holds_277 : decode cL_holds 277 = .ok (.aload 10, 2) := by decide +kernel
theorem dL_holds_279 : decode cL_holds 279 = .ok (.iload 19, 2) := by decide +kernel
theorem dL_holds_281 : decode cL_holds 281 = .ok (.dup2, 1) := by decide +kernel
theorem dL_holds_282 : decode cL_holds 282 = .ok (.iaload, 1) := by decide +kernel
theorem dL_holds_283 : decode cL_holds 283 = .ok (.iconst 1, 1) := by decide +kernel
theorem dL_holds_284 : decode cL_holds 284 = .ok (.iload 18, 2) := by decide +kernel
theorem dL_holds_286 : decode cL_holds 286 = .ok (.ishl, 1) := by decide +kernel
theorem dL_holds_287 : decode cL_holds 287 = .ok (.ior, 1) := by decide +kernel
theorem dL_holds_288 : decode cL_holds 288 = .ok (.iastore, 1) := by decide +kernel
theorem dL_holds_289 : decode cL_holds 289 = .ok (.aload 11, 2) := by decide +kernel
theorem dL_holds_291 : decode cL_holds 291 = .ok (.bipush 10, 2) := by decide +kernel
theorem dL_holds_293 : decode cL_holds 293 = .ok (.iload 18, 2) := by decide +kernel
theorem dL_holds_295 : decode cL_holds 295 = .ok (.imul, 1) := by decide +kernel
theorem dL_holds_296 : decode cL_holds 296 = .ok (.iload 21, 2) := by decide +kernel
theorem dL_holds_298 : decode cL_holds 298 = .ok (.iadd, 1) := by decide +kernel
theorem dL_holds_299 : decode cL_holds 299 = .ok (.iaload, 1) := by decide +kernel
theorem dL_holds_300 : decode cL_holds 300 = .ok (.ifCond .ne 19, 3) := by decide +kernel
theorem dL_holds_303 : decode cL_holds 303 = .ok (.aload 12, 2) := by decide +kernel
theorem dL_holds_305 : decode cL_holds 305 = .ok (.iload 13, 2) := by decide +kernel
theorem dL_holds_307 : decode cL_holds 307 = .ok (.iinc 13 1, 3) := by decide +kernel
theorem dL_holds_310 : decode cL_holds 310 = .ok (.bipush 10, 2) := by decide +kernel
theorem dL_holds_312 : decode cL_holds 312 = .ok (.iload 18, 2) := by decide +kernel
theorem dL_holds_314 : decode cL_holds 314 = .ok (.imul, 1) := by decide +kernel
theorem dL_holds_315 : decode cL_holds 315 = .ok (.iload 21, 2) := by decide +kernel
theorem dL_holds_317 : decode cL_holds 317 = .ok (.iadd, 1) := by decide +kernel
theorem dL_holds_318 : decode cL_holds 318 = .ok (.iastore, 1) := by decide +kernel
theorem dL_holds_319 : decode cL_holds 319 = .ok (.aload 11, 2) := by decide +kernel
theorem dL_holds_321 : decode cL_holds 321 = .ok (.bipush 10, 2) := by decide +kernel
theorem dL_holds_323 : decode cL_holds 323 = .ok (.iload 18, 2) := by decide +kernel
theorem dL_holds_325 : decode cL_holds 325 = .ok (.imul, 1) := by decide +kernel
theorem dL_holds_326 : decode cL_holds 326 = .ok (.iload 21, 2) := by decide +kernel
theorem dL_holds_328 : decode cL_holds 328 = .ok (.iadd, 1) := by decide +kernel
theorem dL_holds_329 : decode cL_holds 329 = .ok (.dup2, 1) := by decide +kernel
theorem dL_holds_330 : decode cL_holds 330 = .ok (.iaload, 1) := by decide +kernel
theorem dL_holds_331 : decode cL_holds 331 = .ok (.aload_n 2, 1) := by decide +kernel
theorem dL_holds_332 : decode cL_holds 332 = .ok (.iload 16, 2) := by decide +kernel
theorem dL_holds_334 : decode cL_holds 334 = .ok (.iaload, 1) := by decide +kernel
theorem dL_holds_335 : decode cL_holds 335 = .ok (.iadd, 1) := by decide +kernel
theorem dL_holds_336 : decode cL_holds 336 = .ok (.iastore, 1) := by decide +kernel
theorem dL_holds_337 : decode cL_holds 337 = .ok (.iload 14, 2) := by decide +kernel
theorem dL_holds_339 : decode cL_holds 339 = .ok (.aload_n 2, 1) := by decide +kernel
theorem dL_holds_340 : decode cL_holds 340 = .ok (.iload 16, 2) := by decide +kernel
theorem dL_holds_342 : decode cL_holds 342 = .ok (.iaload, 1) := by decide +kernel
theorem dL_holds_343 : decode cL_holds 343 = .ok (.iadd, 1) := by decide +kernel
theorem dL_holds_344 : decode cL_holds 344 = .ok (.istore 14, 2) := by decide +kernel
theorem dL_holds_346 : decode cL_holds 346 = .ok (.iload 15, 2) := by decide +kernel
theorem dL_holds_348 : decode cL_holds 348 = .ok (.aload_n 2, 1) := by decide +kernel
theorem dL_holds_349 : decode cL_holds 349 = .ok (.iload 16, 2) := by decide +kernel
theorem dL_holds_351 : decode cL_holds 351 = .ok (.iaload, 1) := by decide +kernel
theorem dL_holds_352 : decode cL_holds 352 = .ok (.aload_n 3, 1) := by decide +kernel
theorem dL_holds_353 : decode cL_holds 353 = .ok (.iload 16, 2) := by decide +kernel
theorem dL_holds_355 : decode cL_holds 355 = .ok (.iaload, 1) := by decide +kernel
theorem dL_holds_356 : decode cL_holds 356 = .ok (.imul, 1) := by decide +kernel
theorem dL_holds_357 : decode cL_holds 357 = .ok (.iadd, 1) := by decide +kernel
theorem dL_holds_358 : decode cL_holds 358 = .ok (.istore 15, 2) := by decide +kernel
theorem dL_holds_360 : decode cL_holds 360 = .ok (.iinc 16 1, 3) := by decide +kernel
theorem dL_holds_363 : decode cL_holds 363 = .ok (.goto (-278), 3) := by decide +kernel
theorem dL_holds_366 : decode cL_holds 366 = .ok (.aload_n 0, 1) := by decide +kernel
theorem dL_holds_367 : decode cL_holds 367 = .ok (.invokevirtual 287, 3) := by decide +kernel
theorem dL_holds_370 : decode cL_holds 370 = .ok (.iload 13, 2) := by decide +kernel
theorem dL_holds_372 : decode cL_holds 372 = .ok (.if_icmp .ne 27, 3) := by decide +kernel
theorem dL_holds_375 : decode cL_holds 375 = .ok (.aload_n 0, 1) := by decide +kernel
theorem dL_holds_376 : decode cL_holds 376 = .ok (.invokevirtual 290, 3) := by decide +kernel
theorem dL_holds_379 : decode cL_holds 379 = .ok (.iload 4, 2) := by decide +kernel
theorem dL_holds_381 : decode cL_holds 381 = .ok (.ifCond .ne 7, 3) := by decide +kernel
theorem dL_holds_384 : decode cL_holds 384 = .ok (.dconst 0, 1) := by decide +kernel
theorem dL_holds_385 : decode cL_holds 385 = .ok (.goto 10, 3) := by decide +kernel
theorem dL_holds_388 : decode cL_holds 388 = .ok (.iload 15, 2) := by decide +kernel
theorem dL_holds_390 : decode cL_holds 390 = .ok (.i2d, 1) := by decide +kernel
theorem dL_holds_391 : decode cL_holds 391 = .ok (.iload 14, 2) := by decide +kernel
theorem dL_holds_393 : decode cL_holds 393 = .ok (.i2d, 1) := by decide +kernel
theorem dL_holds_394 : decode cL_holds 394 = .ok (.ddiv, 1) := by decide +kernel
theorem dL_holds_395 : decode cL_holds 395 = .ok (.dcmp .l, 1) := by decide +kernel
theorem dL_holds_396 : decode cL_holds 396 = .ok (.ifCond .eq 5, 3) := by decide +kernel
theorem dL_holds_399 : decode cL_holds 399 = .ok (.iconst 0, 1) := by decide +kernel
theorem dL_holds_400 : decode cL_holds 400 = .ok (.ireturn, 1) := by decide +kernel
theorem dL_holds_401 : decode cL_holds 401 = .ok (.iconst (-1), 1) := by decide +kernel
theorem dL_holds_402 : decode cL_holds 402 = .ok (.istore 16, 2) := by decide +kernel
theorem dL_holds_404 : decode cL_holds 404 = .ok (.iconst 0, 1) := by decide +kernel
theorem dL_holds_405 : decode cL_holds 405 = .ok (.istore 17, 2) := by decide +kernel
theorem dL_holds_407 : decode cL_holds 407 = .ok (.iload 17, 2) := by decide +kernel
theorem dL_holds_409 : decode cL_holds 409 = .ok (.iload 13, 2) := by decide +kernel
theorem dL_holds_411 : decode cL_holds 411 = .ok (.if_icmp .ge 54, 3) := by decide +kernel
theorem dL_holds_414 : decode cL_holds 414 = .ok (.aload_n 0, 1) := by decide +kernel
theorem dL_holds_415 : decode cL_holds 415 = .ok (.iload 17, 2) := by decide +kernel
theorem dL_holds_417 : decode cL_holds 417 = .ok (.invokevirtual 294, 3) := by decide +kernel
theorem dL_holds_420 : decode cL_holds 420 = .ok (.aload 12, 2) := by decide +kernel
theorem dL_holds_422 : decode cL_holds 422 = .ok (.iload 17, 2) := by decide +kernel
theorem dL_holds_424 : decode cL_holds 424 = .ok (.iaload, 1) := by decide +kernel
theorem dL_holds_425 : decode cL_holds 425 = .ok (.if_icmp .eq 5, 3) := by decide +kernel
theorem dL_holds_428 : decode cL_holds 428 = .ok (.iconst 0, 1) := by decide +kernel
theorem dL_holds_429 : decode cL_holds 429 = .ok (.ireturn, 1) := by decide +kernel
theorem dL_holds_430 : decode cL_holds 430 = .ok (.iload 16, 2) := by decide +kernel
theorem dL_holds_432 : decode cL_holds 432 = .ok (.iconst (-1), 1) := by decide +kernel
theorem dL_holds_433 : decode cL_holds 433 = .ok (.if_icmp .eq 19, 3) := by decide +kernel
theorem dL_holds_436 : decode cL_holds 436 = .ok (.aload 11, 2) := by decide +kernel
theorem dL_holds_438 : decode cL_holds 438 = .ok (.aload 12, 2) := by decide +kernel
theorem dL_holds_440 : decode cL_holds 440 = .ok (.iload 17, 2) := by decide +kernel
theorem dL_holds_442 : decode cL_holds 442 = .ok (.iaload, 1) := by decide +kernel
theorem dL_holds_443 : decode cL_holds 443 = .ok (.iaload, 1) := by decide +kernel
theorem dL_holds_444 : decode cL_holds 444 = .ok (.aload 11, 2) := by decide +kernel
theorem dL_holds_446 : decode cL_holds 446 = .ok (.iload 16, 2) := by decide +kernel
theorem dL_holds_448 : decode cL_holds 448 = .ok (.iaload, 1) := by decide +kernel
theorem dL_holds_449 : decode cL_holds 449 = .ok (.if_icmp .le 10, 3) := by decide +kernel
theorem dL_holds_452 : decode cL_holds 452 = .ok (.aload 12, 2) := by decide +kernel
theorem dL_holds_454 : decode cL_holds 454 = .ok (.iload 17, 2) := by decide +kernel
theorem dL_holds_456 : decode cL_holds 456 = .ok (.iaload, 1) := by decide +kernel
theorem dL_holds_457 : decode cL_holds 457 = .ok (.istore 16, 2) := by decide +kernel
theorem dL_holds_459 : decode cL_holds 459 = .ok (.iinc 17 1, 3) := by decide +kernel
theorem dL_holds_462 : decode cL_holds 462 = .ok (.goto (-55), 3) := by decide +kernel
theorem dL_holds_465 : decode cL_holds 465 = .ok (.aload_n 0, 1) := by decide +kernel
theorem dL_holds_466 : decode cL_holds 466 = .ok (.invokevirtual 297, 3) := by decide +kernel
theorem dL_holds_469 : decode cL_holds 469 = .ok (.iload 16, 2) := by decide +kernel
theorem dL_holds_471 : decode cL_holds 471 = .ok (.if_icmp .eq 5, 3) := by decide +kernel
theorem dL_holds_474 : decode cL_holds 474 = .ok (.iconst 0, 1) := by decide +kernel
theorem dL_holds_475 : decode cL_holds 475 = .ok (.ireturn, 1) := by decide +kernel
theorem dL_holds_476 : decode cL_holds 476 = .ok (.iconst 0, 1) := by decide +kernel
theorem dL_holds_477 : decode cL_holds 477 = .ok (.istore 17, 2) := by decide +kernel
theorem dL_holds_479 : decode cL_holds 479 = .ok (.iload 17, 2) := by decide +kernel
theorem dL_holds_481 : decode cL_holds 481 = .ok (.aload_n 0, 1) := by decide +kernel
theorem dL_holds_482 : decode cL_holds 482 = .ok (.invokevirtual 139, 3) := by decide +kernel
theorem dL_holds_485 : decode cL_holds 485 = .ok (.if_icmp .ge 51, 3) := by decide +kernel
theorem dL_holds_488 : decode cL_holds 488 = .ok (.iconst 0, 1) := by decide +kernel
theorem dL_holds_489 : decode cL_holds 489 = .ok (.istore 18, 2) := by decide +kernel
theorem dL_holds_491 : decode cL_holds 491 = .ok (.iload 18, 2) := by decide +kernel
theorem dL_holds_493 : decode cL_holds 493 = .ok (.aload_n 0, 1) := by decide +kernel
theorem dL_holds_494 : decode cL_holds 494 = .ok (.invokevirtual 142, 3) := by decide +kernel
theorem dL_holds_497 : decode cL_holds 497 = .ok (.if_icmp .ge 33, 3) := by decide +kernel
theorem dL_holds_500 : decode cL_holds 500 = .ok (.aload_n 0, 1) := by decide +kernel
theorem dL_holds_501 : decode cL_holds 501 = .ok (.iload 17, 2) := by decide +kernel
theorem dL_holds_503 : decode cL_holds 503 = .ok (.iload 18, 2) := by decide +kernel
theorem dL_holds_505 : decode cL_holds 505 = .ok (.invokevirtual 300, 3) := by decide +kernel
theorem dL_holds_508 : decode cL_holds 508 = .ok (.aload 11, 2) := by decide +kernel
theorem dL_holds_510 : decode cL_holds 510 = .ok (.bipush 10, 2) := by decide +kernel
theorem dL_holds_512 : decode cL_holds 512 = .ok (.iload 17, 2) := by decide +kernel
theorem dL_holds_514 : decode cL_holds 514 = .ok (.imul, 1) := by decide +kernel
theorem dL_holds_515 : decode cL_holds 515 = .ok (.iload 18, 2) := by decide +kernel
theorem dL_holds_517 : decode cL_holds 517 = .ok (.iadd, 1) := by decide +kernel
theorem dL_holds_518 : decode cL_holds 518 = .ok (.iaload, 1) := by decide +kernel
theorem dL_holds_519 : decode cL_holds 519 = .ok (.if_icmp .eq 5, 3) := by decide +kernel
theorem dL_holds_522 : decode cL_holds 522 = .ok (.iconst 0, 1) := by decide +kernel
theorem dL_holds_523 : decode cL_holds 523 = .ok (.ireturn, 1) := by decide +kernel
theorem dL_holds_524 : decode cL_holds 524 = .ok (.iinc 18 1, 3) := by decide +kernel
theorem dL_holds_527 : decode cL_holds 527 = .ok (.goto (-36), 3) := by decide +kernel
theorem dL_holds_530 : decode cL_holds 530 = .ok (.iinc 17 1, 3) := by decide +kernel
theorem dL_holds_533 : decode cL_holds 533 = .ok (.goto (-54), 3) := by decide +kernel
theorem dL_holds_536 : decode cL_holds 536 = .ok (.iconst (-1), 1) := by decide +kernel
theorem dL_holds_537 : decode cL_holds 537 = .ok (.istore 17, 2) := by decide +kernel
theorem dL_holds_539 : decode cL_holds 539 = .ok (.iconst 0, 1) := by decide +kernel
theorem dL_holds_540 : decode cL_holds 540 = .ok (.istore 18, 2) := by decide +kernel
theorem dL_holds_542 : decode cL_holds 542 = .ok (.aload_n 0, 1) := by decide +kernel
theorem dL_holds_543 : decode cL_holds 543 = .ok (.invokevirtual 157, 3) := by decide +kernel
theorem dL_holds_546 : decode cL_holds 546 = .ok (.istore 19, 2) := by decide +kernel
theorem dL_holds_548 : decode cL_holds 548 = .ok (.iconst 0, 1) := by decide +kernel
theorem dL_holds_549 : decode cL_holds 549 = .ok (.istore 20, 2) := by decide +kernel
theorem dL_holds_551 : decode cL_holds 551 = .ok (.iconst 0, 1) := by decide +kernel
theorem dL_holds_552 : decode cL_holds 552 = .ok (.istore 21, 2) := by decide +kernel
theorem dL_holds_554 : decode cL_holds 554 = .ok (.iconst 0, 1) := by decide +kernel
theorem dL_holds_555 : decode cL_holds 555 = .ok (.istore 22, 2) := by decide +kernel
theorem dL_holds_557 : decode cL_holds 557 = .ok (.iload 22, 2) := by decide +kernel
theorem dL_holds_559 : decode cL_holds 559 = .ok (.iload 5, 2) := by decide +kernel
theorem dL_holds_561 : decode cL_holds 561 = .ok (.if_icmp .ge 207, 3) := by decide +kernel
theorem dL_holds_564 : decode cL_holds 564 = .ok (.iconst 0, 1) := by decide +kernel
theorem dL_holds_565 : decode cL_holds 565 = .ok (.istore 23, 2) := by decide +kernel
theorem dL_holds_567 : decode cL_holds 567 = .ok (.iconst 0, 1) := by decide +kernel
theorem dL_holds_568 : decode cL_holds 568 = .ok (.istore 24, 2) := by decide +kernel
theorem dL_holds_570 : decode cL_holds 570 = .ok (.iload 24, 2) := by decide +kernel
theorem dL_holds_572 : decode cL_holds 572 = .ok (.aload_n 0, 1) := by decide +kernel
theorem dL_holds_573 : decode cL_holds 573 = .ok (.invokevirtual 148, 3) := by decide +kernel
theorem dL_holds_576 : decode cL_holds 576 = .ok (.if_icmp .ge 30, 3) := by decide +kernel
theorem dL_holds_579 : decode cL_holds 579 = .ok (.iload 23, 2) := by decide +kernel
theorem dL_holds_581 : decode cL_holds 581 = .ok (.aload_n 1, 1) := by decide +kernel
theorem dL_holds_582 : decode cL_holds 582 = .ok (.iload 24, 2) := by decide +kernel
theorem dL_holds_584 : decode cL_holds 584 = .ok (.invokestatic 109, 3) := by decide +kernel
theorem dL_holds_587 : decode cL_holds 587 = .ok (.iload 22, 2) := by decide +kernel
theorem dL_holds_589 : decode cL_holds 589 = .ok (.if_icmp .ne 7, 3) := by decide +kernel
theorem dL_holds_592 : decode cL_holds 592 = .ok (.iconst 1, 1) := by decide +kernel
theorem dL_holds_593 : decode cL_holds 593 = .ok (.goto 4, 3) := by decide +kernel
theorem dL_holds_596 : decode cL_holds 596 = .ok (.iconst 0, 1) := by decide +kernel
theorem dL_holds_597 : decode cL_holds 597 = .ok (.iadd, 1) := by decide +kernel
theorem dL_holds_598 : decode cL_holds 598 = .ok (.istore 23, 2) := by decide +kernel
theorem dL_holds_600 : decode cL_holds 600 = .ok (.iinc 24 1, 3) := by decide +kernel
theorem dL_holds_603 : decode cL_holds 603 = .ok (.goto (-33), 3) := by decide +kernel
theorem dL_holds_606 : decode cL_holds 606 = .ok (.aload_n 0, 1) := by decide +kernel
theorem dL_holds_607 : decode cL_holds 607 = .ok (.iload 22, 2) := by decide +kernel
theorem dL_holds_609 : decode cL_holds 609 = .ok (.invokevirtual 303, 3) := by decide +kernel
theorem dL_holds_612 : decode cL_holds 612 = .ok (.iload 23, 2) := by decide +kernel
theorem dL_holds_614 : decode cL_holds 614 = .ok (.if_icmp .ne 62, 3) := by decide +kernel
theorem dL_holds_617 : decode cL_holds 617 = .ok (.aload_n 0, 1) := by decide +kernel
theorem dL_holds_618 : decode cL_holds 618 = .ok (.iload 22, 2) := by decide +kernel
theorem dL_holds_620 : decode cL_holds 620 = .ok (.invokevirtual 306, 3) := by decide +kernel
theorem dL_holds_623 : decode cL_holds 623 = .ok (.aload 9, 2) := by decide +kernel
theorem dL_holds_625 : decode cL_holds 625 = .ok (.iload 22, 2) := by decide +kernel
theorem dL_holds_627 : decode cL_holds 627 = .ok (.iaload, 1) := by decide +kernel
theorem dL_holds_628 : decode cL_holds 628 = .ok (.if_icmp .ne 48, 3) := by decide +kernel
theorem dL_holds_631 : decode cL_holds 631 = .ok (.aload_n 0, 1) := by decide +kernel
theorem dL_holds_632 : decode cL_holds 632 = .ok (.iload 22, 2) := by decide +kernel
theorem dL_holds_634 : decode cL_holds 634 = .ok (.invokevirtual 309, 3) := by decide +kernel
theorem dL_holds_637 : decode cL_holds 637 = .ok (.aload 7, 2) := by decide +kernel
theorem dL_holds_639 : decode cL_holds 639 = .ok (.iload 22, 2) := by decide +kernel
theorem dL_holds_641 : decode cL_holds 641 = .ok (.iaload, 1) := by decide +kernel
theorem dL_holds_642 : decode cL_holds 642 = .ok (.if_icmp .ne 34, 3) := by decide +kernel
theorem dL_holds_645 : decode cL_holds 645 = .ok (.aload_n 0, 1) := by decide +kernel
theorem dL_holds_646 : decode cL_holds 646 = .ok (.iload 22, 2) := by decide +kernel
theorem dL_holds_648 : decode cL_holds 648 = .ok (.invokevirtual 312, 3) := by decide +kernel
theorem dL_holds_651 : decode cL_holds 651 = .ok (.aload 8, 2) := by decide +kernel
theorem dL_holds_653 : decode cL_holds 653 = .ok (.iload 22, 2) := by decide +kernel
theorem dL_holds_655 : decode cL_holds 655 = .ok (.iaload, 1) := by decide +kernel
theorem dL_holds_656 : decode cL_holds 656 = .ok (.if_icmp .ne 20, 3) := by decide +kernel
theorem dL_holds_659 : decode cL_holds 659 = .ok (.aload_n 0, 1) := by decide +kernel
theorem dL_holds_660 : decode cL_holds 660 = .ok (.iload 22, 2) := by decide +kernel
theorem dL_holds_662 : decode cL_holds 662 = .ok (.invokevirtual 315, 3) := by decide +kernel
theorem dL_holds_665 : decode cL_holds 665 = .ok (.aload 10, 2) := by decide +kernel
theorem dL_holds_667 : decode cL_holds 667 = .ok (.iload 22, 2) := by decide +kernel
theorem dL_holds_669 : decode cL_holds 669 = .ok (.iaload, 1) := by decide +kernel
theorem dL_holds_670 : decode cL_holds 670 = .ok (.invokestatic 318, 3) := by decide +kernel
theorem dL_holds_673 : decode cL_holds 673 = .ok (.if_icmp .eq 5, 3) := by decide +kernel
theorem dL_holds_676 : decode cL_holds 676 = .ok (.iconst 0, 1) := by decide +kernel
theorem dL_holds_677 : decode cL_holds 677 = .ok (.ireturn, 1) := by decide +kernel
theorem dL_holds_678 : decode cL_holds 678 = .ok (.iload 17, 2) := by decide +kernel
theorem dL_holds_680 : decode cL_holds 680 = .ok (.iconst (-1), 1) := by decide +kernel
theorem dL_holds_681 : decode cL_holds 681 = .ok (.if_icmp .eq 16, 3) := by decide +kernel
theorem dL_holds_684 : decode cL_holds 684 = .ok (.aload 9, 2) := by decide +kernel
theorem dL_holds_686 : decode cL_holds 686 = .ok (.iload 22, 2) := by decide +kernel
theorem dL_holds_688 : decode cL_holds 688 = .ok (.iaload, 1) := by decide +kernel
theorem dL_holds_689 : decode cL_holds 689 = .ok (.aload 9, 2) := by decide +kernel
theorem dL_holds_691 : decode cL_holds 691 = .ok (.iload 17, 2) := by decide +kernel
theorem dL_holds_693 : decode cL_holds 693 = .ok (.iaload, 1) := by decide +kernel
theorem dL_holds_694 : decode cL_holds 694 = .ok (.if_icmp .le 7, 3) := by decide +kernel
theorem dL_holds_697 : decode cL_holds 697 = .ok (.iload 22, 2) := by decide +kernel
theorem dL_holds_699 : decode cL_holds 699 = .ok (.istore 17, 2) := by decide +kernel
theorem dL_holds_701 : decode cL_holds 701 = .ok (.iload 18, 2) := by decide +kernel
theorem dL_holds_703 : decode cL_holds 703 = .ok (.aload 7, 2) := by decide +kernel
theorem dL_holds_705 : decode cL_holds 705 = .ok (.iload 22, 2) := by decide +kernel
theorem dL_holds_707 : decode cL_holds 707 = .ok (.iaload, 1) := by decide +kernel
theorem dL_holds_708 : decode cL_holds 708 = .ok (.iadd, 1) := by decide +kernel
theorem dL_holds_709 : decode cL_holds 709 = .ok (.istore 18, 2) := by decide +kernel
theorem dL_holds_711 : decode cL_holds 711 = .ok (.iload 21, 2) := by decide +kernel
theorem dL_holds_713 : decode cL_holds 713 = .ok (.ifCond .ne 13, 3) := by decide +kernel
theorem dL_holds_716 : decode cL_holds 716 = .ok (.aload 7, 2) := by decide +kernel
theorem dL_holds_718 : decode cL_holds 718 = .ok (.iload 22, 2) := by decide +kernel
theorem dL_holds_720 : decode cL_holds 720 = .ok (.iaload, 1) := by decide +kernel
theorem dL_holds_721 : decode cL_holds 721 = .ok (.iload 19, 2) := by decide +kernel
theorem dL_holds_723 : decode cL_holds 723 = .ok (.if_icmp .le 7, 3) := by decide +kernel
theorem dL_holds_726 : decode cL_holds 726 = .ok (.iconst 1, 1) := by decide +kernel
theorem dL_holds_727 : decode cL_holds 727 = .ok (.goto 4, 3) := by decide +kernel
theorem dL_holds_730 : decode cL_holds 730 = .ok (.iconst 0, 1) := by decide +kernel
theorem dL_holds_731 : decode cL_holds 731 = .ok (.istore 21, 2) := by decide +kernel
theorem dL_holds_733 : decode cL_holds 733 = .ok (.iload 21, 2) := by decide +kernel
theorem dL_holds_735 : decode cL_holds 735 = .ok (.ifCond .ne 27, 3) := by decide +kernel
theorem dL_holds_738 : decode cL_holds 738 = .ok (.aload 7, 2) := by decide +kernel
theorem dL_holds_740 : decode cL_holds 740 = .ok (.iload 22, 2) := by decide +kernel
theorem dL_holds_742 : decode cL_holds 742 = .ok (.iaload, 1) := by decide +kernel
theorem dL_holds_743 : decode cL_holds 743 = .ok (.ifCond .ne 6, 3) := by decide +kernel
theorem dL_holds_746 : decode cL_holds 746 = .ok (.goto 16, 3) := by decide +kernel
theorem dL_holds_749 : decode cL_holds 749 = .ok (.iload 19, 2) := by decide +kernel
theorem dL_holds_751 : decode cL_holds 751 = .ok (.aload 7, 2) := by decide +kernel
theorem dL_holds_753 : decode cL_holds 753 = .ok (.iload 22, 2) := by decide +kernel
theorem dL_holds_755 : decode cL_holds 755 = .ok (.iaload, 1) := by decide +kernel
theorem dL_holds_756 : decode cL_holds 756 = .ok (.isub, 1) := by decide +kernel
theorem dL_holds_757 : decode cL_holds 757 = .ok (.istore 19, 2) := by decide +kernel
theorem dL_holds_759 : decode cL_holds 759 = .ok (.iinc 20 1, 3) := by decide +kernel
theorem dL_holds_762 : decode cL_holds 762 = .ok (.iinc 22 1, 3) := by decide +kernel
theorem dL_holds_765 : decode cL_holds 765 = .ok (.goto (-208), 3) := by decide +kernel
theorem dL_holds_768 : decode cL_holds 768 = .ok (.iconst 0, 1) := by decide +kernel
theorem dL_holds_769 : decode cL_holds 769 = .ok (.istore 22, 2) := by decide +kernel
theorem dL_holds_771 : decode cL_holds 771 = .ok (.iload 22, 2) := by decide +kernel
theorem dL_holds_773 : decode cL_holds 773 = .ok (.aload_n 0, 1) := by decide +kernel
theorem dL_holds_774 : decode cL_holds 774 = .ok (.invokevirtual 148, 3) := by decide +kernel
theorem dL_holds_777 : decode cL_holds 777 = .ok (.if_icmp .ge 56, 3) := by decide +kernel
theorem dL_holds_780 : decode cL_holds 780 = .ok (.aload_n 0, 1) := by decide +kernel
theorem dL_holds_781 : decode cL_holds 781 = .ok (.iload 22, 2) := by decide +kernel
theorem dL_holds_783 : decode cL_holds 783 = .ok (.invokevirtual 166, 3) := by decide +kernel
theorem dL_holds_786 : decode cL_holds 786 = .ok (.aload 6, 2) := by decide +kernel
theorem dL_holds_788 : decode cL_holds 788 = .ok (.iload 22, 2) := by decide +kernel
theorem dL_holds_790 : decode cL_holds 790 = .ok (.iaload, 1) := by decide +kernel
theorem dL_holds_791 : decode cL_holds 791 = .ok (.if_icmp .ne 34, 3) := by decide +kernel
theorem dL_holds_794 : decode cL_holds 794 = .ok (.aload_n 0, 1) := by decide +kernel
theorem dL_holds_795 : decode cL_holds 795 = .ok (.iload 22, 2) := by decide +kernel
theorem dL_holds_797 : decode cL_holds 797 = .ok (.invokevirtual 323, 3) := by decide +kernel
theorem dL_holds_800 : decode cL_holds 800 = .ok (.sipush 5000, 3) := by decide +kernel
theorem dL_holds_803 : decode cL_holds 803 = .ok (.iconst 0, 1) := by decide +kernel
theorem dL_holds_804 : decode cL_holds 804 = .ok (.aload_n 0, 1) := by decide +kernel
theorem dL_holds_805 : decode cL_holds 805 = .ok (.iload 22, 2) := by decide +kernel
theorem dL_holds_807 : decode cL_holds 807 = .ok (.invokevirtual 163, 3) := by decide +kernel
theorem dL_holds_810 : decode cL_holds 810 = .ok (.aload 6, 2) := by decide +kernel
theorem dL_holds_812 : decode cL_holds 812 = .ok (.iload 22, 2) := by decide +kernel
theorem dL_holds_814 : decode cL_holds 814 = .ok (.iaload, 1) := by decide +kernel
theorem dL_holds_815 : decode cL_holds 815 = .ok (.isub, 1) := by decide +kernel
theorem dL_holds_816 : decode cL_holds 816 = .ok (.invokestatic 326, 3) := by decide +kernel
theorem dL_holds_819 : decode cL_holds 819 = .ok (.invokestatic 30, 3) := by decide +kernel
theorem dL_holds_822 : decode cL_holds 822 = .ok (.if_icmp .eq 5, 3) := by decide +kernel
theorem dL_holds_825 : decode cL_holds 825 = .ok (.iconst 0, 1) := by decide +kernel
theorem dL_holds_826 : decode cL_holds 826 = .ok (.ireturn, 1) := by decide +kernel
theorem dL_holds_827 : decode cL_holds 827 = .ok (.iinc 22 1, 3) := by decide +kernel
theorem dL_holds_830 : decode cL_holds 830 = .ok (.goto (-59), 3) := by decide +kernel
theorem dL_holds_833 : decode cL_holds 833 = .ok (.aload_n 0, 1) := by decide +kernel
theorem dL_holds_834 : decode cL_holds 834 = .ok (.invokevirtual 329, 3) := by decide +kernel
theorem dL_holds_837 : decode cL_holds 837 = .ok (.iload 17, 2) := by decide +kernel
theorem dL_holds_839 : decode cL_holds 839 = .ok (.if_icmp .ne 51, 3) := by decide +kernel
theorem dL_holds_842 : decode cL_holds 842 = .ok (.aload_n 0, 1) := by decide +kernel
theorem dL_holds_843 : decode cL_holds 843 = .ok (.invokevirtual 332, 3) := by decide +kernel
theorem dL_holds_846 : decode cL_holds 846 = .ok (.iload 18, 2) := by decide +kernel
theorem dL_holds_848 : decode cL_holds 848 = .ok (.if_icmp .ne 42, 3) := by decide +kernel
theorem dL_holds_851 : decode cL_holds 851 = .ok (.aload_n 0, 1) := by decide +kernel
theorem dL_holds_852 : decode cL_holds 852 = .ok (.invokevirtual 335, 3) := by decide +kernel
theorem dL_holds_855 : decode cL_holds 855 = .ok (.iconst 0, 1) := by decide +kernel
theorem dL_holds_856 : decode cL_holds 856 = .ok (.iload 18, 2) := by decide +kernel
theorem dL_holds_858 : decode cL_holds 858 = .ok (.aload_n 0, 1) := by decide +kernel
theorem dL_holds_859 : decode cL_holds 859 = .ok (.invokevirtual 157, 3) := by decide +kernel
theorem dL_holds_862 : decode cL_holds 862 = .ok (.isub, 1) := by decide +kernel
theorem dL_holds_863 : decode cL_holds 863 = .ok (.invokestatic 326, 3) := by decide +kernel
theorem dL_holds_866 : decode cL_holds 866 = .ok (.if_icmp .ne 24, 3) := by decide +kernel
theorem dL_holds_869 : decode cL_holds 869 = .ok (.aload_n 0, 1) := by decide +kernel
theorem dL_holds_870 : decode cL_holds 870 = .ok (.invokevirtual 338, 3) := by decide +kernel
theorem dL_holds_873 : decode cL_holds 873 = .ok (.iload 20, 2) := by decide +kernel
theorem dL_holds_875 : decode cL_holds 875 = .ok (.if_icmp .ne 15, 3) := by decide +kernel
theorem dL_holds_878 : decode cL_holds 878 = .ok (.aload_n 0, 1) := by decide +kernel
theorem dL_holds_879 : decode cL_holds 879 = .ok (.aload_n 1, 1) := by decide +kernel
