/-! Methods: handlers, facts, contracts. -/
theorem dX12_readClass_0 : decode cX12_readClass 0 = .ok (.iconst 0, 1) := by decide +kernel
theorem dX12_readClass_1 : decode cX12_readClass 1 = .ok (.istore_n 1, 1) := by decide +kernel
theorem dX12_readClass_2 : decode cX12_readClass 2 = .ok (.iconst 0, 1) := by decide +kernel
theorem dX12_readClass_3 : decode cX12_readClass 3 = .ok (.istore_n 2, 1) := by decide +kernel
theorem dX12_readClass_4 : decode cX12_readClass 4 = .ok (.aload_n 0, 1) := by decide +kernel
theorem dX12_readClass_5 : decode cX12_readClass 5 = .ok (.iconst 0, 1) := by decide +kernel
theorem dX12_readClass_6 : decode cX12_readClass 6 = .ok (.invokevirtual 663, 3) := by decide +kernel
theorem dX12_readClass_9 : decode cX12_readClass 9 = .ok (.ifCond .ne 11, 3) := by decide +kernel
theorem dX12_readClass_12 : decode cX12_readClass 12 = .ok (.aload_n 0, 1) := by decide +kernel
theorem dX12_readClass_13 : decode cX12_readClass 13 = .ok (.iconst 1, 1) := by decide +kernel
theorem dX12_readClass_14 : decode cX12_readClass 14 = .ok (.invokevirtual 663, 3) := by decide +kernel
theorem dX12_readClass_17 : decode cX12_readClass 17 = .ok (.ifCond .eq 46, 3) := by decide +kernel
theorem dX12_readClass_63 : decode cX12_readClass 63 = .ok (.aload_n 0, 1) := by decide +kernel
theorem dX12_readClass_64 : decode cX12_readClass 64 = .ok (.aload_n 0, 1) := by decide +kernel
theorem dX12_readClass_65 : decode cX12_readClass 65 = .ok (.iconst 2, 1) := by decide +kernel
theorem dX12_readClass_66 : decode cX12_readClass 66 = .ok (.invokevirtual 663, 3) := by decide +kernel
theorem dX12_readClass_69 : decode cX12_readClass 69 = .ok (.ifCond .ne 11, 3) := by decide +kernel
theorem dX12_readClass_72 : decode cX12_readClass 72 = .ok (.aload_n 0, 1) := by decide +kernel
theorem dX12_readClass_73 : decode cX12_readClass 73 = .ok (.iconst 3, 1) := by decide +kernel
theorem dX12_readClass_74 : decode cX12_readClass 74 = .ok (.invokevirtual 663, 3) := by decide +kernel
theorem dX12_readClass_77 : decode cX12_readClass 77 = .ok (.ifCond .eq 7, 3) := by decide +kernel
theorem dX12_readClass_80 : decode cX12_readClass 80 = .ok (.iconst 1, 1) := by decide +kernel
theorem dX12_readClass_81 : decode cX12_readClass 81 = .ok (.goto 4, 3) := by decide +kernel
theorem dX12_readClass_85 : decode cX12_readClass 85 = .ok (.invokevirtual 644, 3) := by decide +kernel
theorem dX12_readClass_88 : decode cX12_readClass 88 = .ok (.ifCond .ne 5, 3) := by decide +kernel
theorem dX12_readClass_93 : decode cX12_readClass 93 = .ok (.aload_n 0, 1) := by decide +kernel
theorem dX12_readClass_94 : decode cX12_readClass 94 = .ok (.iconst 3, 1) := by decide +kernel
theorem dX12_readClass_95 : decode cX12_readClass 95 = .ok (.invokevirtual 663, 3) := by decide +kernel
theorem dX12_readClass_98 : decode cX12_readClass 98 = .ok (.istore_n 3, 1) := by decide +kernel
theorem dX12_readClass_99 : decode cX12_readClass 99 = .ok (.aload_n 0, 1) := by decide +kernel
theorem dX12_readClass_100 : decode cX12_readClass 100 = .ok (.invokevirtual 648, 3) := by decide +kernel
theorem dX12_readClass_103 : decode cX12_readClass 103 = .ok (.aload_n 0, 1) := by decide +kernel
theorem dX12_readClass_104 : decode cX12_readClass 104 = .ok (.invokevirtual 659, 3) := by decide +kernel
theorem dX12_readClass_107 : decode cX12_readClass 107 = .ok (.ifCond .eq 17, 3) := by decide +kernel
theorem dX12_readClass_110 : decode cX12_readClass 110 = .ok (.aload_n 0, 1) := by decide +kernel
theorem dX12_readClass_111 : decode cX12_readClass 111 = .ok (.getfield 684, 3) := by decide +kernel
theorem dX12_readClass_114 : decode cX12_readClass 114 = .ok (.bipush 43, 2) := by decide +kernel
theorem dX12_readClass_116 : decode cX12_readClass 116 = .ok (.if_icmp .ne 8, 3) := by decide +kernel
theorem dX12_readClass_124 : decode cX12_readClass 124 = .ok (.aload_n 0, 1) := by decide +kernel
theorem dX12_readClass_125 : decode cX12_readClass 125 = .ok (.invokevirtual 687, 3) := by decide +kernel
theorem dX12_readClass_128 : decode cX12_readClass 128 = .ok (.ifCond .ne 5, 3) := by decide +kernel
theorem dX12_readClass_133 : decode cX12_readClass 133 = .ok (.aload_n 0, 1) := by decide +kernel
theorem dX12_readClass_134 : decode cX12_readClass 134 = .ok (.getfield 684, 3) := by decide +kernel
theorem dX12_readClass_137 : decode cX12_readClass 137 = .ok (.istore 4, 2) := by decide +kernel
theorem dX12_readClass_139 : decode cX12_readClass 139 = .ok (.aload_n 0, 1) := by decide +kernel
theorem dX12_readClass_140 : decode cX12_readClass 140 = .ok (.getfield 20, 3) := by decide +kernel
theorem dX12_readClass_143 : decode cX12_readClass 143 = .ok (.iload 4, 2) := by decide +kernel
theorem dX12_readClass_145 : decode cX12_readClass 145 = .ok (.aload_n 0, 1) := by decide +kernel
theorem dX12_readClass_146 : decode cX12_readClass 146 = .ok (.getfield 669, 3) := by decide +kernel
theorem dX12_readClass_149 : decode cX12_readClass 149 = .ok (.iastore, 1) := by decide +kernel
theorem dX12_readClass_150 : decode cX12_readClass 150 = .ok (.aload_n 0, 1) := by decide +kernel
theorem dX12_readClass_151 : decode cX12_readClass 151 = .ok (.getfield 23, 3) := by decide +kernel
theorem dX12_readClass_154 : decode cX12_readClass 154 = .ok (.iload 4, 2) := by decide +kernel
theorem dX12_readClass_156 : decode cX12_readClass 156 = .ok (.aload_n 0, 1) := by decide +kernel
theorem dX12_readClass_157 : decode cX12_readClass 157 = .ok (.getfield 672, 3) := by decide +kernel
theorem dX12_readClass_160 : decode cX12_readClass 160 = .ok (.iastore, 1) := by decide +kernel
theorem dX12_readClass_161 : decode cX12_readClass 161 = .ok (.aload_n 0, 1) := by decide +kernel
theorem dX12_readClass_162 : decode cX12_readClass 162 = .ok (.getfield 26, 3) := by decide +kernel
theorem dX12_readClass_165 : decode cX12_readClass 165 = .ok (.iload 4, 2) := by decide +kernel
theorem dX12_readClass_167 : decode cX12_readClass 167 = .ok (.iload_n 3, 1) := by decide +kernel
theorem dX12_readClass_168 : decode cX12_readClass 168 = .ok (.bastore, 1) := by decide +kernel
theorem dX12_readClass_169 : decode cX12_readClass 169 = .ok (.aload_n 0, 1) := by decide +kernel
theorem dX12_readClass_170 : decode cX12_readClass 170 = .ok (.getfield 30, 3) := by decide +kernel
theorem dX12_readClass_173 : decode cX12_readClass 173 = .ok (.iload 4, 2) := by decide +kernel
theorem dX12_readClass_175 : decode cX12_readClass 175 = .ok (.iload_n 1, 1) := by decide +kernel
theorem dX12_readClass_176 : decode cX12_readClass 176 = .ok (.bastore, 1) := by decide +kernel
theorem dX12_readClass_177 : decode cX12_readClass 177 = .ok (.aload_n 0, 1) := by decide +kernel
theorem dX12_readClass_178 : decode cX12_readClass 178 = .ok (.getfield 33, 3) := by decide +kernel
theorem dX12_readClass_181 : decode cX12_readClass 181 = .ok (.iload 4, 2) := by decide +kernel
theorem dX12_readClass_183 : decode cX12_readClass 183 = .ok (.iload_n 2, 1) := by decide +kernel
theorem dX12_readClass_184 : decode cX12_readClass 184 = .ok (.bastore, 1) := by decide +kernel
theorem dX12_readClass_185 : decode cX12_readClass 185 = .ok (.aload_n 0, 1) := by decide +kernel
theorem dX12_readClass_186 : decode cX12_readClass 186 = .ok (.getfield 36, 3) := by decide +kernel
theorem dX12_readClass_189 : decode cX12_readClass 189 = .ok (.iload 4, 2) := by decide +kernel
theorem dX12_readClass_191 : decode cX12_readClass 191 = .ok (.iconst (-1), 1) := by decide +kernel
theorem dX12_readClass_192 : decode cX12_readClass 192 = .ok (.iastore, 1) := by decide +kernel
theorem dX12_readClass_193 : decode cX12_readClass 193 = .ok (.aload_n 0, 1) := by decide +kernel
theorem dX12_readClass_194 : decode cX12_readClass 194 = .ok (.getfield 42, 3) := by decide +kernel
theorem dX12_readClass_197 : decode cX12_readClass 197 = .ok (.iload 4, 2) := by decide +kernel
theorem dX12_readClass_199 : decode cX12_readClass 199 = .ok (.iconst 0, 1) := by decide +kernel
theorem dX12_readClass_200 : decode cX12_readClass 200 = .ok (.iastore, 1) := by decide +kernel
theorem dX12_readClass_201 : decode cX12_readClass 201 = .ok (.aload_n 0, 1) := by decide +kernel
theorem dX12_readClass_202 : decode cX12_readClass 202 = .ok (.getfield 51, 3) := by decide +kernel
theorem dX12_readClass_205 : decode cX12_readClass 205 = .ok (.iload 4, 2) := by decide +kernel
theorem dX12_readClass_207 : decode cX12_readClass 207 = .ok (.aload_n 0, 1) := by decide +kernel
theorem dX12_readClass_208 : decode cX12_readClass 208 = .ok (.getfield 690, 3) := by decide +kernel
theorem dX12_readClass_211 : decode cX12_readClass 211 = .ok (.iastore, 1) := by decide +kernel
theorem dX12_readClass_212 : decode cX12_readClass 212 = .ok (.aload_n 0, 1) := by decide +kernel
theorem dX12_readClass_213 : decode cX12_readClass 213 = .ok (.getfield 54, 3) := by decide +kernel
theorem dX12_readClass_216 : decode cX12_readClass 216 = .ok (.iload 4, 2) := by decide +kernel
theorem dX12_readClass_218 : decode cX12_readClass 218 = .ok (.aload_n 0, 1) := by decide +kernel
theorem dX12_readClass_219 : decode cX12_readClass 219 = .ok (.getfield 693, 3) := by decide +kernel
theorem dX12_readClass_222 : decode cX12_readClass 222 = .ok (.iastore, 1) := by decide +kernel
theorem dX12_readClass_223 : decode cX12_readClass 223 = .ok (.aload_n 0, 1) := by decide +kernel
theorem dX12_readClass_224 : decode cX12_readClass 224 = .ok (.iconst 4, 1) := by decide +kernel
theorem dX12_readClass_225 : decode cX12_readClass 225 = .ok (.invokevirtual 663, 3) := by decide +kernel
theorem dX12_readClass_228 : decode cX12_readClass 228 = .ok (.ifCond .eq 38, 3) := by decide +kernel
theorem dX12_readClass_231 : decode cX12_readClass 231 = .ok (.aload_n 0, 1) := by decide +kernel
theorem dX12_readClass_232 : decode cX12_readClass 232 = .ok (.invokevirtual 648, 3) := by decide +kernel
theorem dX12_readClass_235 : decode cX12_readClass 235 = .ok (.aload_n 0, 1) := by decide +kernel
theorem dX12_readClass_236 : decode cX12_readClass 236 = .ok (.invokevirtual 687, 3) := by decide +kernel
theorem dX12_readClass_239 : decode cX12_readClass 239 = .ok (.ifCond .ne 5, 3) := by decide +kernel
theorem dX12_readClass_244 : decode cX12_readClass 244 = .ok (.aload_n 0, 1) := by decide +kernel
theorem dX12_readClass_245 : decode cX12_readClass 245 = .ok (.getfield 36, 3) := by decide +kernel
theorem dX12_readClass_248 : decode cX12_readClass 248 = .ok (.iload 4, 2) := by decide +kernel
theorem dX12_readClass_250 : decode cX12_readClass 250 = .ok (.aload_n 0, 1) := by decide +kernel
theorem dX12_readClass_251 : decode cX12_readClass 251 = .ok (.getfield 669, 3) := by decide +kernel
theorem dX12_readClass_254 : decode cX12_readClass 254 = .ok (.iastore, 1) := by decide +kernel
theorem dX12_readClass_255 : decode cX12_readClass 255 = .ok (.aload_n 0, 1) := by decide +kernel
theorem dX12_readClass_256 : decode cX12_readClass 256 = .ok (.getfield 39, 3) := by decide +kernel
theorem dX12_readClass_259 : decode cX12_readClass 259 = .ok (.iload 4, 2) := by decide +kernel
theorem dX12_readClass_261 : decode cX12_readClass 261 = .ok (.aload_n 0, 1) := by decide +kernel
theorem dX12_readClass_262 : decode cX12_readClass 262 = .ok (.getfield 672, 3) := by decide +kernel
theorem dX12_readClass_265 : decode cX12_readClass 265 = .ok (.iastore, 1) := by decide +kernel
theorem dX12_readClass_266 : decode cX12_readClass 266 = .ok (.aload_n 0, 1) := by decide +kernel
theorem dX12_readClass_267 : decode cX12_readClass 267 = .ok (.iconst 5, 1) := by decide +kernel
theorem dX12_readClass_268 : decode cX12_readClass 268 = .ok (.invokevirtual 663, 3) := by decide +kernel
theorem dX12_readClass_271 : decode cX12_readClass 271 = .ok (.istore 5, 2) := by decide +kernel
theorem dX12_readClass_273 : decode cX12_readClass 273 = .ok (.iload 5, 2) := by decide +kernel
theorem dX12_readClass_275 : decode cX12_readClass 275 = .ok (.ifCond .eq 106, 3) := by decide +kernel
theorem dX12_readClass_278 : decode cX12_readClass 278 = .ok (.aload_n 0, 1) := by decide +kernel
theorem dX12_readClass_279 : decode cX12_readClass 279 = .ok (.invokevirtual 648, 3) := by decide +kernel
theorem dX12_readClass_282 : decode cX12_readClass 282 = .ok (.aload_n 0, 1) := by decide +kernel
theorem dX12_readClass_283 : decode cX12_readClass 283 = .ok (.invokevirtual 659, 3) := by decide +kernel
theorem dX12_readClass_286 : decode cX12_readClass 286 = .ok (.ifCond .eq 20, 3) := by decide +kernel
theorem dX12_readClass_289 : decode cX12_readClass 289 = .ok (.aload_n 0, 1) := by decide +kernel
theorem dX12_readClass_290 : decode cX12_readClass 290 = .ok (.getfield 42, 3) := by decide +kernel
theorem dX12_readClass_293 : decode cX12_readClass 293 = .ok (.iload 4, 2) := by decide +kernel
theorem dX12_readClass_295 : decode cX12_readClass 295 = .ok (.iaload, 1) := by decide +kernel
theorem dX12_readClass_296 : decode cX12_readClass 296 = .ok (.bipush 6, 2) := by decide +kernel
theorem dX12_readClass_298 : decode cX12_readClass 298 = .ok (.if_icmp .ne 8, 3) := by decide +kernel
theorem dX12_readClass_306 : decode cX12_readClass 306 = .ok (.aload_n 0, 1) := by decide +kernel
theorem dX12_readClass_307 : decode cX12_readClass 307 = .ok (.invokevirtual 687, 3) := by decide +kernel
theorem dX12_readClass_310 : decode cX12_readClass 310 = .ok (.ifCond .ne 5, 3) := by decide +kernel
theorem dX12_readClass_315 : decode cX12_readClass 315 = .ok (.aload_n 0, 1) := by decide +kernel
theorem dX12_readClass_316 : decode cX12_readClass 316 = .ok (.getfield 45, 3) := by decide +kernel
theorem dX12_readClass_319 : decode cX12_readClass 319 = .ok (.bipush 6, 2) := by decide +kernel
theorem dX12_readClass_321 : decode cX12_readClass 321 = .ok (.iload 4, 2) := by decide +kernel
theorem dX12_readClass_323 : decode cX12_readClass 323 = .ok (.imul, 1) := by decide +kernel
theorem dX12_readClass_324 : decode cX12_readClass 324 = .ok (.aload_n 0, 1) := by decide +kernel
theorem dX12_readClass_325 : decode cX12_readClass 325 = .ok (.getfield 42, 3) := by decide +kernel
theorem dX12_readClass_328 : decode cX12_readClass 328 = .ok (.iload 4, 2) := by decide +kernel
theorem dX12_readClass_330 : decode cX12_readClass 330 = .ok (.iaload, 1) := by decide +kernel
theorem dX12_readClass_331 : decode cX12_readClass 331 = .ok (.iadd, 1) := by decide +kernel
theorem dX12_readClass_332 : decode cX12_readClass 332 = .ok (.aload_n 0, 1) := by decide +kernel
theorem dX12_readClass_333 : decode cX12_readClass 333 = .ok (.getfield 669, 3) := by decide +kernel
theorem dX12_readClass_336 : decode cX12_readClass 336 = .ok (.iastore, 1) := by decide +kernel
theorem dX12_readClass_337 : decode cX12_readClass 337 = .ok (.aload_n 0, 1) := by decide +kernel
theorem dX12_readClass_338 : decode cX12_readClass 338 = .ok (.getfield 48, 3) := by decide +kernel
theorem dX12_readClass_341 : decode cX12_readClass 341 = .ok (.bipush 6, 2) := by decide +kernel
theorem dX12_readClass_343 : decode cX12_readClass 343 = .ok (.iload 4, 2) := by decide +kernel
theorem dX12_readClass_345 : decode cX12_readClass 345 = .ok (.imul, 1) := by decide +kernel
theorem dX12_readClass_346 : decode cX12_readClass 346 = .ok (.aload_n 0, 1) := by decide +kernel
theorem dX12_readClass_347 : decode cX12_readClass 347 = .ok (.getfield 42, 3) := by decide +kernel
theorem dX12_readClass_350 : decode cX12_readClass 350 = .ok (.iload 4, 2) := by decide +kernel
theorem dX12_readClass_352 : decode cX12_readClass 352 = .ok (.iaload, 1) := by decide +kernel
theorem dX12_readClass_353 : decode cX12_readClass 353 = .ok (.iadd, 1) := by decide +kernel
theorem dX12_readClass_354 : decode cX12_readClass 354 = .ok (.aload_n 0, 1) := by decide +kernel
theorem dX12_readClass_355 : decode cX12_readClass 355 = .ok (.getfield 672, 3) := by decide +kernel
theorem dX12_readClass_358 : decode cX12_readClass 358 = .ok (.iastore, 1) := by decide +kernel
theorem dX12_readClass_359 : decode cX12_readClass 359 = .ok (.aload_n 0, 1) := by decide +kernel
theorem dX12_readClass_360 : decode cX12_readClass 360 = .ok (.getfield 42, 3) := by decide +kernel
theorem dX12_readClass_363 : decode cX12_readClass 363 = .ok (.iload 4, 2) := by decide +kernel
theorem dX12_readClass_365 : decode cX12_readClass 365 = .ok (.dup2, 1) := by decide +kernel
theorem dX12_readClass_366 : decode cX12_readClass 366 = .ok (.iaload, 1) := by decide +kernel
theorem dX12_readClass_367 : decode cX12_readClass 367 = .ok (.iconst 1, 1) := by decide +kernel
theorem dX12_readClass_368 : decode cX12_readClass 368 = .ok (.iadd, 1) := by decide +kernel
theorem dX12_readClass_369 : decode cX12_readClass 369 = .ok (.iastore, 1) := by decide +kernel
theorem dX12_readClass_370 : decode cX12_readClass 370 = .ok (.aload_n 0, 1) := by decide +kernel
theorem dX12_readClass_371 : decode cX12_readClass 371 = .ok (.bipush 44, 2) := by decide +kernel
theorem dX12_readClass_373 : decode cX12_readClass 373 = .ok (.invokevirtual 641, 3) := by decide +kernel
theorem dX12_readClass_376 : decode cX12_readClass 376 = .ok (.istore 5, 2) := by decide +kernel
theorem dX12_readClass_378 : decode cX12_readClass 378 = .ok (.goto (-105), 3) := by decide +kernel
theorem dX12_readClass_381 : decode cX12_readClass 381 = .ok (.aload_n 0, 1) := by decide +kernel
theorem dX12_readClass_382 : decode cX12_readClass 382 = .ok (.bipush 123, 2) := by decide +kernel
theorem dX12_readClass_384 : decode cX12_readClass 384 = .ok (.invokevirtual 666, 3) := by decide +kernel
theorem dX12_readClass_387 : decode cX12_readClass 387 = .ok (.ifCond .ne 5, 3) := by decide +kernel
theorem dX12_readClass_392 : decode cX12_readClass 392 = .ok (.aload_n 0, 1) := by decide +kernel
theorem dX12_readClass_393 : decode cX12_readClass 393 = .ok (.dup, 1) := by decide +kernel
theorem dX12_readClass_394 : decode cX12_readClass 394 = .ok (.getfield 684, 3) := by decide +kernel
theorem dX12_readClass_397 : decode cX12_readClass 397 = .ok (.iconst 1, 1) := by decide +kernel
theorem dX12_readClass_398 : decode cX12_readClass 398 = .ok (.iadd, 1) := by decide +kernel
theorem dX12_readClass_399 : decode cX12_readClass 399 = .ok (.putfield 684, 3) := by decide +kernel
theorem dX12_readClass_402 : decode cX12_readClass 402 = .ok (.aload_n 0, 1) := by decide +kernel
theorem dX12_readClass_403 : decode cX12_readClass 403 = .ok (.bipush 125, 2) := by decide +kernel
theorem dX12_readClass_405 : decode cX12_readClass 405 = .ok (.invokevirtual 641, 3) := by decide +kernel
theorem dX12_readClass_408 : decode cX12_readClass 408 = .ok (.ifCond .ne 14, 3) := by decide +kernel
theorem dX12_readClass_411 : decode cX12_readClass 411 = .ok (.aload_n 0, 1) := by decide +kernel
theorem dX12_readClass_412 : decode cX12_readClass 412 = .ok (.iload 4, 2) := by decide +kernel
theorem dX12_readClass_414 : decode cX12_readClass 414 = .ok (.invokevirtual 696, 3) := by decide +kernel
theorem dX12_readClass_417 : decode cX12_readClass 417 = .ok (.ifCond .ne (-15), 3) := by decide +kernel
theorem dX12_readClass_422 : decode cX12_readClass 422 = .ok (.aload_n 0, 1) := by decide +kernel
theorem dX12_readClass_423 : decode cX12_readClass 423 = .ok (.invokevirtual 648, 3) := by decide +kernel
theorem dX12_readClass_426 : decode cX12_readClass 426 = .ok (.aload_n 0, 1) := by decide +kernel
theorem dX12_readClass_427 : decode cX12_readClass 427 = .ok (.getfield 51, 3) := by decide +kernel
theorem dX12_readClass_430 : decode cX12_readClass 430 = .ok (.aload_n 0, 1) := by decide +kernel
theorem dX12_readClass_431 : decode cX12_readClass 431 = .ok (.getfield 684, 3) := by decide +kernel
theorem dX12_readClass_434 : decode cX12_readClass 434 = .ok (.aload_n 0, 1) := by decide +kernel
theorem dX12_readClass_435 : decode cX12_readClass 435 = .ok (.getfield 690, 3) := by decide +kernel
theorem dX12_readClass_438 : decode cX12_readClass 438 = .ok (.iastore, 1) := by decide +kernel
theorem dX12_readClass_439 : decode cX12_readClass 439 = .ok (.aload_n 0, 1) := by decide +kernel
theorem dX12_readClass_440 : decode cX12_readClass 440 = .ok (.getfield 54, 3) := by decide +kernel
theorem dX12_readClass_443 : decode cX12_readClass 443 = .ok (.aload_n 0, 1) := by decide +kernel
theorem dX12_readClass_444 : decode cX12_readClass 444 = .ok (.getfield 684, 3) := by decide +kernel
theorem dX12_readClass_447 : decode cX12_readClass 447 = .ok (.aload_n 0, 1) := by decide +kernel
theorem dX12_readClass_448 : decode cX12_readClass 448 = .ok (.getfield 693, 3) := by decide +kernel
theorem dX12_readClass_451 : decode cX12_readClass 451 = .ok (.iastore, 1) := by decide +kernel
theorem dX12_readClass_452 : decode cX12_readClass 452 = .ok (.iconst 1, 1) := by decide +kernel
theorem dX12_readClass_453 : decode cX12_readClass 453 = .ok (.ireturn, 1) := by decide +kernel
def rpX12_readClass : List Nat := [0, 1, 2, 3, 4, 5, 6, 9, 12, 13, 14, 17, 20, 63, 64, 65, 66, 69, 72, 73, 74, 77, 80, 81, 84, 85, 88, 91, 93, 94, 95, 98, 99, 100, 103, 104, 107, 110, 111, 114, 116, 119, 124, 125, 128, 131, 133, 134, 137, 139, 140, 143, 145, 146, 149, 150, 151, 154, 156, 157, 160, 161, 162, 165, 167, 168, 169, 170, 173, 175, 176, 177, 178, 181, 183, 184, 185, 186, 189, 191, 192, 193, 194, 197, 199, 200, 201, 202, 205, 207, 208, 211, 212, 213, 216, 218, 219, 222, 223, 224, 225, 228, 231, 232, 235, 236, 239, 242, 244, 245, 248, 250, 251, 254, 255, 256, 259, 261, 262, 265, 266, 267, 268, 271, 273, 275, 278, 279, 282, 283, 286, 289, 290, 293, 295, 296, 298, 301, 306, 307, 310, 313, 315, 316, 319, 321, 323, 324, 325, 328, 330, 331, 332, 333, 336, 337, 338, 341, 343, 345, 346, 347, 350, 352, 353, 354, 355, 358, 359, 360, 363, 365, 366, 367, 368, 369, 370, 371, 373, 376, 378, 381, 382, 384, 387, 390, 392, 393, 394, 397, 398, 399, 402, 403, 405, 408, 411, 412, 414, 417, 420, 422, 423, 426, 427, 430, 431, 434, 435, 438, 439, 440, 443, 444, 447, 448, 451, 452, 453]
noncomputable def rcX12_readClass : List rz_B := [rz_cst 0, rz_istore 1, rz_cst 0, rz_istore 2, rz_aload 0, rz_cst 0, rz_callV 1 (Nat.add (Nat.mul 256 14) 1) rgX12_isWord, rz_ifne 12, rz_aload 0, rz_cst 1, rz_callV 1 (Nat.add (Nat.mul 256 14) 1) rgX12_isWord, rz_ifeq 13, rz_no, rz_aload 0, rz_aload 0, rz_cst 2, rz_callV 1 (Nat.add (Nat.mul 256 14) 1) rgX12_isWord, rz_ifne 22, rz_aload 0, rz_cst 3, rz_callV 1 (Nat.add (Nat.mul 256 14) 1) rgX12_isWord, rz_ifeq 24, rz_cst 1, rz_goto 25, rz_no, rz_callV 1 (Nat.add (Nat.mul 256 14) 1) rgX12_can, rz_ifne 28, rz_no, rz_aload 0, rz_cst 3, rz_callV 1 (Nat.add (Nat.mul 256 14) 1) rgX12_isWord, rz_istore 3, rz_aload 0, rz_callVv 0 (Nat.add (Nat.mul 256 14) 1) rgX12_next, rz_aload 0, rz_callV 0 (Nat.add (Nat.mul 256 14) 1) rgX12_isName, rz_ifeq 42, rz_aload 0, rz_getf (Nat.add (Nat.mul 256 14) 1) 13 rz_i, rz_cst 43, rz_icmpne 42, rz_no, rz_aload 0, rz_callV 0 (Nat.add (Nat.mul 256 14) 1) rgX12_name, rz_ifne 46, rz_no, rz_aload 0, rz_getf (Nat.add (Nat.mul 256 14) 1) 13 rz_i, rz_istore 4, rz_aload 0, rz_getf (Nat.add (Nat.mul 256 14) 1) 14 rz_r, rz_iload 4, rz_aload 0, rz_getf (Nat.add (Nat.mul 256 14) 1) 66 rz_i, rz_iast, rz_aload 0, rz_getf (Nat.add (Nat.mul 256 14) 1) 15 rz_r, rz_iload 4, rz_aload 0, rz_getf (Nat.add (Nat.mul 256 14) 1) 67 rz_i, rz_iast, rz_aload 0, rz_getf (Nat.add (Nat.mul 256 14) 1) 16 rz_r, rz_iload 4, rz_iload 3, rz_zast, rz_aload 0, rz_getf (Nat.add (Nat.mul 256 14) 1) 17 rz_r, rz_iload 4, rz_iload 1, rz_zast, rz_aload 0, rz_getf (Nat.add (Nat.mul 256 14) 1) 18 rz_r, rz_iload 4, rz_iload 2, rz_zast, rz_aload 0, rz_getf (Nat.add (Nat.mul 256 14) 1) 19 rz_r, rz_iload 4, rz_cst 4294967295, rz_iast, rz_aload 0, rz_getf (Nat.add (Nat.mul 256 14) 1) 21 rz_r, rz_iload 4, rz_cst 0, rz_iast, rz_aload 0, rz_getf (Nat.add (Nat.mul 256 14) 1) 24 rz_r, rz_iload 4, rz_aload 0, rz_getf (Nat.add (Nat.mul 256 14) 1) 26 rz_i, rz_iast, rz_aload 0, rz_getf (Nat.add (Nat.mul 256 14) 1) 25 rz_r, rz_iload 4, rz_aload 0, rz_getf (Nat.add (Nat.mul 256 14) 1) 31 rz_i, rz_iast, rz_aload 0, rz_cst 4, rz_callV 1 (Nat.add (Nat.mul 256 14) 1) rgX12_isWord, rz_ifeq 120, rz_aload 0, rz_callVv 0 (Nat.add (Nat.mul 256 14) 1) rgX12_next, rz_aload 0, rz_callV 0 (Nat.add (Nat.mul 256 14) 1) rgX12_name, rz_ifne 108, rz_no, rz_aload 0, rz_getf (Nat.add (Nat.mul 256 14) 1) 19 rz_r, rz_iload 4, rz_aload 0, rz_getf (Nat.add (Nat.mul 256 14) 1) 66 rz_i, rz_iast, rz_aload 0, rz_getf (Nat.add (Nat.mul 256 14) 1) 20 rz_r, rz_iload 4, rz_aload 0, rz_getf (Nat.add (Nat.mul 256 14) 1) 67 rz_i, rz_iast, rz_aload 0, rz_cst 5, rz_callV 1 (Nat.add (Nat.mul 256 14) 1) rgX12_isWord, rz_istore 5, rz_iload 5, rz_ifeq 181, rz_aload 0, rz_callVv 0 (Nat.add (Nat.mul 256 14) 1) rgX12_next, rz_aload 0, rz_callV 0 (Nat.add (Nat.mul 256 14) 1) rgX12_isName, rz_ifeq 138, rz_aload 0, rz_getf (Nat.add (Nat.mul 256 14) 1) 21 rz_r, rz_iload 4, rz_iald, rz_cst 6, rz_icmpne 138, rz_no, rz_aload 0, rz_callV 0 (Nat.add (Nat.mul 256 14) 1) rgX12_name, rz_ifne 142, rz_no, rz_aload 0, rz_getf (Nat.add (Nat.mul 256 14) 1) 22 rz_r, rz_cst 6, rz_iload 4, rz_imul, rz_aload 0, rz_getf (Nat.add (Nat.mul 256 14) 1) 21 rz_r, rz_iload 4, rz_iald, rz_iadd, rz_aload 0, rz_getf (Nat.add (Nat.mul 256 14) 1) 66 rz_i, rz_iast, rz_aload 0, rz_getf (Nat.add (Nat.mul 256 14) 1) 23 rz_r, rz_cst 6, rz_iload 4, rz_imul, rz_aload 0, rz_getf (Nat.add (Nat.mul 256 14) 1) 21 rz_r, rz_iload 4, rz_iald, rz_iadd, rz_aload 0, rz_getf (Nat.add (Nat.mul 256 14) 1) 67 rz_i, rz_iast, rz_aload 0, rz_getf (Nat.add (Nat.mul 256 14) 1) 21 rz_r, rz_iload 4, rz_dup2, rz_iald, rz_cst 1, rz_iadd, rz_iast, rz_aload 0, rz_cst 44, rz_callV 1 (Nat.add (Nat.mul 256 14) 1) rgX12_isSign, rz_istore 5, rz_goto 124, rz_aload 0, rz_cst 123, rz_callV 1 (Nat.add (Nat.mul 256 14) 1) rgX12_sign, rz_ifne 186, rz_no, rz_aload 0, rz_dup, rz_getf (Nat.add (Nat.mul 256 14) 1) 13 rz_i, rz_cst 1, rz_iadd, rz_putf (Nat.add (Nat.mul 256 14) 1) 13 rz_unI, rz_aload 0, rz_cst 125, rz_callV 1 (Nat.add (Nat.mul 256 14) 1) rgX12_isSign, rz_ifne 201, rz_aload 0, rz_iload 4, rz_callV 1 (Nat.add (Nat.mul 256 14) 1) rgX12_readMember, rz_ifne 192, rz_no, rz_aload 0, rz_callVv 0 (Nat.add (Nat.mul 256 14) 1) rgX12_next, rz_aload 0, rz_getf (Nat.add (Nat.mul 256 14) 1) 24 rz_r, rz_aload 0, rz_getf (Nat.add (Nat.mul 256 14) 1) 13 rz_i, rz_aload 0, rz_getf (Nat.add (Nat.mul 256 14) 1) 26 rz_i, rz_iast, rz_aload 0, rz_getf (Nat.add (Nat.mul 256 14) 1) 25 rz_r, rz_aload 0, rz_getf (Nat.add (Nat.mul 256 14) 1) 13 rz_i, rz_aload 0, rz_getf (Nat.add (Nat.mul 256 14) 1) 31 rz_i, rz_iast, rz_cst 1, rz_zret]
noncomputable def rgX12_readClass : rz_L → rz_M → rz_Z → Bool := rz_go rcX12_readClass 6 1000000
def rrX12_readClass : Room := { frames := 13, cells := 0, slots := 0, locals := 329 }
theorem rmX12_readClass (l : Launch) {G : rz_G} (hG : rz_Gd G) (vs : rz_L) (M : rz_M) (Z : rz_Z) (hn : vs.length = 1) (h : rgX12_readClass vs M Z = true) : Met l yX12_readClass (Cond.code yX12_readClass cX12_readClass 6 (some .boolean) :: rz_TB) rrX12_readClass (rz_Pre G vs M) (rz_Qi G M.2 Z) 0 0 (fun q => rz_b G ≤ q) := by
  obtain ⟨D, tc, ad, b, xs, rfl⟩ := id hG
  refine rz_body (pcs := rpX12_readClass) (by decide) rfl (by rw [hn]; decide) h ?_
  intro p e R s m args below meth c hC
  obtain ⟨hx, hb, hml, hr, hlk, ho, hts, hKn, hRm⟩ := id hC
  obtain ⟨hK, hA, hSt⟩ := id hKn
  have hw : ∀ {i j : Nat} {ws : List Cond} {w : Cond}, rz_WW[i]? = some ws → ws[j]? = some w → w.before args s = true := fun h1 h2 => hts _ (List.mem_cons_of_mem _ (rz_mem h1 h2))
  refine rz_All_c (i := 0) (fun k J hk hJ => rz_iconst_ok (pc := 0) hx hb dX12_readClass_0 rfl hk) ?_
  refine rz_All_c (i := 1) (fun k J hk hJ => rz_istore_n_ok (pc := 1) hx hb dX12_readClass_1 rfl hk) ?_
  refine rz_All_c (i := 2) (fun k J hk hJ => rz_iconst_ok (pc := 2) hx hb dX12_readClass_2 rfl hk) ?_
  refine rz_All_c (i := 3) (fun k J hk hJ => rz_istore_n_ok (pc := 3) hx hb dX12_readClass_3 rfl hk) ?_
  refine rz_All_c (i := 4) (fun k J hk hJ => rz_aload_n_ok (pc := 4) hx hb dX12_readClass_4 rfl hk) ?_
  refine rz_All_c (i := 5) (fun k J hk hJ => rz_iconst_ok (pc := 5) hx hb dX12_readClass_5 rfl hk) ?_
  refine rz_All_c (i := 6) (fun k J hk hJ => rz_callV_ok (pc := 6) (own := RX12) (C := RX12) (T0 := TX12) (N0 := 257) hC rfl (rmX12_isWord l hG) (rz_cwV 1 hC rz_good (rz_mem (i := 37) (j := 0) rfl rfl) (rz_mem (i := 37) (j := 1) rfl rfl) (rz_mem (i := 37) (j := 2) rfl rfl) (rz_mem (i := 32) (j := 8) rfl rfl) (rz_mem (i := 37) (j := 3) rfl rfl) ⟨rfl, by decide, by decide, by decide +kernel⟩ rfl rfl ⟨by decide, by decide⟩) rfl dX12_readClass_6 hk) ?_
  refine rz_All_c (i := 7) (fun k J hk hJ => rz_ifne_ok (pc := 9) hx hb dX12_readClass_9 rfl hk (hJ 12)) ?_
  refine rz_All_c (i := 8) (fun k J hk hJ => rz_aload_n_ok (pc := 12) hx hb dX12_readClass_12 rfl hk) ?_
  refine rz_All_c (i := 9) (fun k J hk hJ => rz_iconst_ok (pc := 13) hx hb dX12_readClass_13 rfl hk) ?_
  refine rz_All_c (i := 10) (fun k J hk hJ => rz_callV_ok (pc := 14) (own := RX12) (C := RX12) (T0 := TX12) (N0 := 257) hC rfl (rmX12_isWord l hG) (rz_cwV 1 hC rz_good (rz_mem (i := 37) (j := 0) rfl rfl) (rz_mem (i := 37) (j := 1) rfl rfl) (rz_mem (i := 37) (j := 2) rfl rfl) (rz_mem (i := 32) (j := 8) rfl rfl) (rz_mem (i := 37) (j := 3) rfl rfl) ⟨rfl, by decide, by decide, by decide +kernel⟩ rfl rfl ⟨by decide, by decide⟩) rfl dX12_readClass_14 hk) ?_
  refine rz_All_c (i := 11) (fun k J hk hJ => rz_ifeq_ok (pc := 17) hx hb dX12_readClass_17 rfl hk (hJ 13)) ?_
  refine rz_All_c (i := 12) (fun k J hk hJ => rz_no_ok) ?_
  refine rz_All_c (i := 13) (fun k J hk hJ => rz_aload_n_ok (pc := 63) hx hb dX12_readClass_63 rfl hk) ?_
  refine rz_All_c (i := 14) (fun k J hk hJ => rz_aload_n_ok (pc := 64) hx hb dX12_readClass_64 rfl hk) ?_
  refine rz_All_c (i := 15) (fun k J hk hJ => rz_iconst_ok (pc := 65) hx hb dX12_readClass_65 rfl hk) ?_
  refine rz_All_c (i := 16) (fun k J hk hJ => rz_callV_ok (pc := 66) (own := RX12) (C := RX12) (T0 := TX12) (N0 := 257) hC rfl (rmX12_isWord l hG) (rz_cwV 1 hC rz_good (rz_mem (i := 37) (j := 0) rfl rfl) (rz_mem (i := 37) (j := 1) rfl rfl) (rz_mem (i := 37) (j := 2) rfl rfl) (rz_mem (i := 32) (j := 8) rfl rfl) (rz_mem (i := 37) (j := 3) rfl rfl) ⟨rfl, by decide, by decide, by decide +kernel⟩ rfl rfl ⟨by decide, by decide⟩) rfl dX12_readClass_66 hk) ?_
  refine rz_All_c (i := 17) (fun k J hk hJ => rz_ifne_ok (pc := 69) hx hb dX12_readClass_69 rfl hk (hJ 22)) ?_
  refine rz_All_c (i := 18) (fun k J hk hJ => rz_aload_n_ok (pc := 72) hx hb dX12_readClass_72 rfl hk) ?_
  refine rz_All_c (i := 19) (fun k J hk hJ => rz_iconst_ok (pc := 73) hx hb dX12_readClass_73 rfl hk) ?_
  refine rz_All_c (i := 20) (fun k J hk hJ => rz_callV_ok (pc := 74) (own := RX12) (C := RX12) (T0 := TX12) (N0 := 257) hC rfl (rmX12_isWord l hG) (rz_cwV 1 hC rz_good (rz_mem (i := 37) (j := 0) rfl rfl) (rz_mem (i := 37) (j := 1) rfl rfl) (rz_mem (i := 37) (j := 2) rfl rfl) (rz_mem (i := 32) (j := 8) rfl rfl) (rz_mem (i := 37) (j := 3) rfl rfl) ⟨rfl, by decide, by decide, by decide +kernel⟩ rfl rfl ⟨by decide, by decide⟩) rfl dX12_readClass_74 hk) ?_
  refine rz_All_c (i := 21) (fun k J hk hJ => rz_ifeq_ok (pc := 77) hx hb dX12_readClass_77 rfl hk (hJ 24)) ?_
  refine rz_All_c (i := 22) (fun k J hk hJ => rz_iconst_ok (pc := 80) hx hb dX12_readClass_80 rfl hk) ?_
  refine rz_All_c (i := 23) (fun k J hk hJ => rz_goto_ok (pc := 81) hx hb dX12_readClass_81 rfl (hJ 25)) ?_
  refine rz_All_c (i := 24) (fun k J hk hJ => rz_no_ok) ?_
  refine rz_All_c (i := 25) (fun k J hk hJ => rz_callV_ok (pc := 85) (own := RX12) (C := RX12) (T0 := TX12) (N0 := 257) hC rfl (rmX12_can l hG) (rz_cwV 1 hC rz_good (rz_mem (i := 37) (j := 16) rfl rfl) (rz_mem (i := 37) (j := 17) rfl rfl) (rz_mem (i := 37) (j := 18) rfl rfl) (rz_mem (i := 32) (j := 8) rfl rfl) (rz_mem (i := 37) (j := 19) rfl rfl) ⟨rfl, by decide, by decide, by decide +kernel⟩ rfl rfl ⟨by decide, by decide⟩) rfl dX12_readClass_85 hk) ?_
  refine rz_All_c (i := 26) (fun k J hk hJ => rz_ifne_ok (pc := 88) hx hb dX12_readClass_88 rfl hk (hJ 28)) ?_
  refine rz_All_c (i := 27) (fun k J hk hJ => rz_no_ok) ?_
  refine rz_All_c (i := 28) (fun k J hk hJ => rz_aload_n_ok (pc := 93) hx hb dX12_readClass_93 rfl hk) ?_
  refine rz_All_c (i := 29) (fun k J hk hJ => rz_iconst_ok (pc := 94) hx hb dX12_readClass_94 rfl hk) ?_
  refine rz_All_c (i := 30) (fun k J hk hJ => rz_callV_ok (pc := 95) (own := RX12) (C := RX12) (T0 := TX12) (N0 := 257) hC rfl (rmX12_isWord l hG) (rz_cwV 1 hC rz_good (rz_mem (i := 37) (j := 0) rfl rfl) (rz_mem (i := 37) (j := 1) rfl rfl) (rz_mem (i := 37) (j := 2) rfl rfl) (rz_mem (i := 32) (j := 8) rfl rfl) (rz_mem (i := 37) (j := 3) rfl rfl) ⟨rfl, by decide, by decide, by decide +kernel⟩ rfl rfl ⟨by decide, by decide⟩) rfl dX12_readClass_95 hk) ?_
  refine rz_All_c (i := 31) (fun k J hk hJ => rz_istore_n_ok (pc := 98) hx hb dX12_readClass_98 rfl hk) ?_
  refine rz_All_c (i := 32) (fun k J hk hJ => rz_aload_n_ok (pc := 99) hx hb dX12_readClass_99 rfl hk) ?_
  refine rz_All_c (i := 33) (fun k J hk hJ => rz_callVv_ok (pc := 100) (own := RX12) (C := RX12) (T0 := TX12) (N0 := 257) hC rfl (rmX12_next l hG) (rz_cwV 0 hC rz_good (rz_mem (i := 34) (j := 21) rfl rfl) (rz_mem (i := 34) (j := 22) rfl rfl) (rz_mem (i := 34) (j := 23) rfl rfl) (rz_mem (i := 32) (j := 8) rfl rfl) (rz_mem (i := 35) (j := 0) rfl rfl) ⟨rfl, by decide, by decide, by decide +kernel⟩ rfl rfl ⟨by decide, by decide⟩) rfl dX12_readClass_100 hk) ?_
  refine rz_All_c (i := 34) (fun k J hk hJ => rz_aload_n_ok (pc := 103) hx hb dX12_readClass_103 rfl hk) ?_
  refine rz_All_c (i := 35) (fun k J hk hJ => rz_callV_ok (pc := 104) (own := RX12) (C := RX12) (T0 := TX12) (N0 := 257) hC rfl (rmX12_isName l hG) (rz_cwV 0 hC rz_good (rz_mem (i := 37) (j := 20) rfl rfl) (rz_mem (i := 37) (j := 21) rfl rfl) (rz_mem (i := 37) (j := 22) rfl rfl) (rz_mem (i := 32) (j := 8) rfl rfl) (rz_mem (i := 37) (j := 23) rfl rfl) ⟨rfl, by decide, by decide, by decide +kernel⟩ rfl rfl ⟨by decide, by decide⟩) rfl dX12_readClass_104 hk) ?_
  refine rz_All_c (i := 36) (fun k J hk hJ => rz_ifeq_ok (pc := 107) hx hb dX12_readClass_107 rfl hk (hJ 42)) ?_
  refine rz_All_c (i := 37) (fun k J hk hJ => rz_aload_n_ok (pc := 110) hx hb dX12_readClass_110 rfl hk) ?_
  refine rz_All_c (i := 38) (fun k J hk hJ => rz_getf_ok (pc := 111) (own := RX12) (ref := "ThreadJudgeModel") (C := RX12) (T := TX12) (N := 257) (ci := 14) (index := 684) (f := 13) (t := 0) (Ts := Cond.code yX12_readClass cX12_readClass 6 (some .boolean) :: rz_TB) hx hb hts rz_in14 ho hK rfl (by decide) rfl (fun _ => rfl) (hw (i := 32) (j := 17) rfl rfl) (fun _ z => z) dX12_readClass_111 hk) ?_
  refine rz_All_c (i := 39) (fun k J hk hJ => rz_bipush_ok (pc := 114) hx hb dX12_readClass_114 (by decide) hk) ?_
  refine rz_All_c (i := 40) (fun k J hk hJ => rz_icmpne_ok (pc := 116) hx hb dX12_readClass_116 rfl hk (hJ 42)) ?_
  refine rz_All_c (i := 41) (fun k J hk hJ => rz_no_ok) ?_
  refine rz_All_c (i := 42) (fun k J hk hJ => rz_aload_n_ok (pc := 124) hx hb dX12_readClass_124 rfl hk) ?_
  refine rz_All_c (i := 43) (fun k J hk hJ => rz_callV_ok (pc := 125) (own := RX12) (C := RX12) (T0 := TX12) (N0 := 257) hC rfl (rmX12_name l hG) (rz_cwV 0 hC rz_good (rz_mem (i := 38) (j := 4) rfl rfl) (rz_mem (i := 38) (j := 5) rfl rfl) (rz_mem (i := 38) (j := 6) rfl rfl) (rz_mem (i := 32) (j := 8) rfl rfl) (rz_mem (i := 38) (j := 7) rfl rfl) ⟨rfl, by decide, by decide, by decide +kernel⟩ rfl rfl ⟨by decide, by decide⟩) rfl dX12_readClass_125 hk) ?_
  refine rz_All_c (i := 44) (fun k J hk hJ => rz_ifne_ok (pc := 128) hx hb dX12_readClass_128 rfl hk (hJ 46)) ?_
  refine rz_All_c (i := 45) (fun k J hk hJ => rz_no_ok) ?_
  refine rz_All_c (i := 46) (fun k J hk hJ => rz_aload_n_ok (pc := 133) hx hb dX12_readClass_133 rfl hk) ?_
  refine rz_All_c (i := 47) (fun k J hk hJ => rz_getf_ok (pc := 134) (own := RX12) (ref := "ThreadJudgeModel") (C := RX12) (T := TX12) (N := 257) (ci := 14) (index := 684) (f := 13) (t := 0) (Ts := Cond.code yX12_readClass cX12_readClass 6 (some .boolean) :: rz_TB) hx hb hts rz_in14 ho hK rfl (by decide) rfl (fun _ => rfl) (hw (i := 32) (j := 17) rfl rfl) (fun _ z => z) dX12_readClass_134 hk) ?_
  refine rz_All_c (i := 48) (fun k J hk hJ => rz_istore_ok (pc := 137) hx hb dX12_readClass_137 hk) ?_
  refine rz_All_c (i := 49) (fun k J hk hJ => rz_aload_n_ok (pc := 139) hx hb dX12_readClass_139 rfl hk) ?_
  refine rz_All_c (i := 50) (fun k J hk hJ => rz_getf_ok (pc := 140) (own := RX12) (ref := "ThreadJudgeModel") (C := RX12) (T := TX12) (N := 257) (ci := 14) (index := 20) (f := 14) (t := 2) (Ts := Cond.code yX12_readClass cX12_readClass 6 (some .boolean) :: rz_TB) hx hb hts rz_in14 ho hK rfl (by decide) rfl (fun _ => rfl) (hw (i := 36) (j := 10) rfl rfl) (fun _ z => z) dX12_readClass_140 hk) ?_
  refine rz_All_c (i := 51) (fun k J hk hJ => rz_iload_ok (pc := 143) hx hb dX12_readClass_143 hk) ?_
  refine rz_All_c (i := 52) (fun k J hk hJ => rz_aload_n_ok (pc := 145) hx hb dX12_readClass_145 rfl hk) ?_
  refine rz_All_c (i := 53) (fun k J hk hJ => rz_getf_ok (pc := 146) (own := RX12) (ref := "ThreadJudgeModel") (C := RX12) (T := TX12) (N := 257) (ci := 14) (index := 669) (f := 66) (t := 0) (Ts := Cond.code yX12_readClass cX12_readClass 6 (some .boolean) :: rz_TB) hx hb hts rz_in14 ho hK rfl (by decide) rfl (fun _ => rfl) (hw (i := 36) (j := 11) rfl rfl) (fun _ z => z) dX12_readClass_146 hk) ?_
  refine rz_All_c (i := 54) (fun k J hk hJ => rz_iast_ok (pc := 149) hx hb hK hA dX12_readClass_149 hk) ?_
  refine rz_All_c (i := 55) (fun k J hk hJ => rz_aload_n_ok (pc := 150) hx hb dX12_readClass_150 rfl hk) ?_
  refine rz_All_c (i := 56) (fun k J hk hJ => rz_getf_ok (pc := 151) (own := RX12) (ref := "ThreadJudgeModel") (C := RX12) (T := TX12) (N := 257) (ci := 14) (index := 23) (f := 15) (t := 2) (Ts := Cond.code yX12_readClass cX12_readClass 6 (some .boolean) :: rz_TB) hx hb hts rz_in14 ho hK rfl (by decide) rfl (fun _ => rfl) (hw (i := 36) (j := 12) rfl rfl) (fun _ z => z) dX12_readClass_151 hk) ?_
  refine rz_All_c (i := 57) (fun k J hk hJ => rz_iload_ok (pc := 154) hx hb dX12_readClass_154 hk) ?_
  refine rz_All_c (i := 58) (fun k J hk hJ => rz_aload_n_ok (pc := 156) hx hb dX12_readClass_156 rfl hk) ?_
  refine rz_All_c (i := 59) (fun k J hk hJ => rz_getf_ok (pc := 157) (own := RX12) (ref := "ThreadJudgeModel") (C := RX12) (T := TX12) (N := 257) (ci := 14) (index := 672) (f := 67) (t := 0) (Ts := Cond.code yX12_readClass cX12_readClass 6 (some .boolean) :: rz_TB) hx hb hts rz_in14 ho hK rfl (by decide) rfl (fun _ => rfl) (hw (i := 36) (j := 13) rfl rfl) (fun _ z => z) dX12_readClass_157 hk) ?_
  refine rz_All_c (i := 60) (fun k J hk hJ => rz_iast_ok (pc := 160) hx hb hK hA dX12_readClass_160 hk) ?_
  refine rz_All_c (i := 61) (fun k J hk hJ => rz_aload_n_ok (pc := 161) hx hb dX12_readClass_161 rfl hk) ?_
  refine rz_All_c (i := 62) (fun k J hk hJ => rz_getf_ok (pc := 162) (own := RX12) (ref := "ThreadJudgeModel") (C := RX12) (T := TX12) (N := 257) (ci := 14) (index := 26) (f := 16) (t := 2) (Ts := Cond.code yX12_readClass cX12_readClass 6 (some .boolean) :: rz_TB) hx hb hts rz_in14 ho hK rfl (by decide) rfl (fun _ => rfl) (hw (i := 36) (j := 14) rfl rfl) (fun _ z => z) dX12_readClass_162 hk) ?_
  refine rz_All_c (i := 63) (fun k J hk hJ => rz_iload_ok (pc := 165) hx hb dX12_readClass_165 hk) ?_
  refine rz_All_c (i := 64) (fun k J hk hJ => rz_iload_n_ok (pc := 167) hx hb dX12_readClass_167 rfl hk) ?_
  refine rz_All_c (i := 65) (fun k J hk hJ => rz_zast_ok (pc := 168) hx hb hK hA dX12_readClass_168 hk) ?_
  refine rz_All_c (i := 66) (fun k J hk hJ => rz_aload_n_ok (pc := 169) hx hb dX12_readClass_169 rfl hk) ?_
  refine rz_All_c (i := 67) (fun k J hk hJ => rz_getf_ok (pc := 170) (own := RX12) (ref := "ThreadJudgeModel") (C := RX12) (T := TX12) (N := 257) (ci := 14) (index := 30) (f := 17) (t := 2) (Ts := Cond.code yX12_readClass cX12_readClass 6 (some .boolean) :: rz_TB) hx hb hts rz_in14 ho hK rfl (by decide) rfl (fun _ => rfl) (hw (i := 36) (j := 15) rfl rfl) (fun _ z => z) dX12_readClass_170 hk) ?_
  refine rz_All_c (i := 68) (fun k J hk hJ => rz_iload_ok (pc := 173) hx hb dX12_readClass_173 hk) ?_
  refine rz_All_c (i := 69) (fun k J hk hJ => rz_iload_n_ok (pc := 175) hx hb dX12_readClass_175 rfl hk) ?_
  refine rz_All_c (i := 70) (fun k J hk hJ => rz_zast_ok (pc := 176) hx hb hK hA dX12_readClass_176 hk) ?_
  refine rz_All_c (i := 71) (fun k J hk hJ => rz_aload_n_ok (pc := 177) hx hb dX12_readClass_177 rfl hk) ?_
  refine rz_All_c (i := 72) (fun k J hk hJ => rz_getf_ok (pc := 178) (own := RX12) (ref := "ThreadJudgeModel") (C := RX12) (T := TX12) (N := 257) (ci := 14) (index := 33) (f := 18) (t := 2) (Ts := Cond.code yX12_readClass cX12_readClass 6 (some .boolean) :: rz_TB) hx hb hts rz_in14 ho hK rfl (by decide) rfl (fun _ => rfl) (hw (i := 36) (j := 16) rfl rfl) (fun _ z => z) dX12_readClass_178 hk) ?_
  refine rz_All_c (i := 73) (fun k J hk hJ => rz_iload_ok (pc := 181) hx hb dX12_readClass_181 hk) ?_
  refine rz_All_c (i := 74) (fun k J hk hJ => rz_iload_n_ok (pc := 183) hx hb dX12_readClass_183 rfl hk) ?_
  refine rz_All_c (i := 75) (fun k J hk hJ => rz_zast_ok (pc := 184) hx hb hK hA dX12_readClass_184 hk) ?_
  refine rz_All_c (i := 76) (fun k J hk hJ => rz_aload_n_ok (pc := 185) hx hb dX12_readClass_185 rfl hk) ?_
  refine rz_All_c (i := 77) (fun k J hk hJ => rz_getf_ok (pc := 186) (own := RX12) (ref := "ThreadJudgeModel") (C := RX12) (T := TX12) (N := 257) (ci := 14) (index := 36) (f := 19) (t := 2) (Ts := Cond.code yX12_readClass cX12_readClass 6 (some .boolean) :: rz_TB) hx hb hts rz_in14 ho hK rfl (by decide) rfl (fun _ => rfl) (hw (i := 36) (j := 17) rfl rfl) (fun _ z => z) dX12_readClass_186 hk) ?_
  refine rz_All_c (i := 78) (fun k J hk hJ => rz_iload_ok (pc := 189) hx hb dX12_readClass_189 hk) ?_
  refine rz_All_c (i := 79) (fun k J hk hJ => rz_iconst_ok (pc := 191) hx hb dX12_readClass_191 rfl hk) ?_
  refine rz_All_c (i := 80) (fun k J hk hJ => rz_iast_ok (pc := 192) hx hb hK hA dX12_readClass_192 hk) ?_
  refine rz_All_c (i := 81) (fun k J hk hJ => rz_aload_n_ok (pc := 193) hx hb dX12_readClass_193 rfl hk) ?_
  refine rz_All_c (i := 82) (fun k J hk hJ => rz_getf_ok (pc := 194) (own := RX12) (ref := "ThreadJudgeModel") (C := RX12) (T := TX12) (N := 257) (ci := 14) (index := 42) (f := 21) (t := 2) (Ts := Cond.code yX12_readClass cX12_readClass 6 (some .boolean) :: rz_TB) hx hb hts rz_in14 ho hK rfl (by decide) rfl (fun _ => rfl) (hw (i := 36) (j := 18) rfl rfl) (fun _ z => z) dX12_readClass_194 hk) ?_
  refine rz_All_c (i := 83) (fun k J hk hJ => rz_iload_ok (pc := 197) hx hb dX12_readClass_197 hk) ?_
  refine rz_All_c (i := 84) (fun k J hk hJ => rz_iconst_ok (pc := 199) hx hb dX12_readClass_199 rfl hk) ?_
  refine rz_All_c (i := 85) (fun k J hk hJ => rz_iast_ok (pc := 200) hx hb hK hA dX12_readClass_200 hk) ?_
  refine rz_All_c (i := 86) (fun k J hk hJ => rz_aload_n_ok (pc := 201) hx hb dX12_readClass_201 rfl hk) ?_
  refine rz_All_c (i := 87) (fun k J hk hJ => rz_getf_ok (pc := 202) (own := RX12) (ref := "ThreadJudgeModel") (C := RX12) (T := TX12) (N := 257) (ci := 14) (index := 51) (f := 24) (t := 2) (Ts := Cond.code yX12_readClass cX12_readClass 6 (some .boolean) :: rz_TB) hx hb hts rz_in14 ho hK rfl (by decide) rfl (fun _ => rfl) (hw (i := 36) (j := 19) rfl rfl) (fun _ z => z) dX12_readClass_202 hk) ?_
  refine rz_All_c (i := 88) (fun k J hk hJ => rz_iload_ok (pc := 205) hx hb dX12_readClass_205 hk) ?_
  refine rz_All_c (i := 89) (fun k J hk hJ => rz_aload_n_ok (pc := 207) hx hb dX12_readClass_207 rfl hk) ?_
  refine rz_All_c (i := 90) (fun k J hk hJ => rz_getf_ok (pc := 208) (own := RX12) (ref := "ThreadJudgeModel") (C := RX12) (T := TX12) (N := 257) (ci := 14) (index := 690) (f := 26) (t := 0) (Ts := Cond.code yX12_readClass cX12_readClass 6 (some .boolean) :: rz_TB) hx hb hts rz_in14 ho hK rfl (by decide) rfl (fun _ => rfl) (hw (i := 32) (j := 18) rfl rfl) (fun _ z => z) dX12_readClass_208 hk) ?_
  refine rz_All_c (i := 91) (fun k J hk hJ => rz_iast_ok (pc := 211) hx hb hK hA dX12_readClass_211 hk) ?_
  refine rz_All_c (i := 92) (fun k J hk hJ => rz_aload_n_ok (pc := 212) hx hb dX12_readClass_212 rfl hk) ?_
  refine rz_All_c (i := 93) (fun k J hk hJ => rz_getf_ok (pc := 213) (own := RX12) (ref := "ThreadJudgeModel") (C := RX12) (T := TX12) (N := 257) (ci := 14) (index := 54) (f := 25) (t := 2) (Ts := Cond.code yX12_readClass cX12_readClass 6 (some .boolean) :: rz_TB) hx hb hts rz_in14 ho hK rfl (by decide) rfl (fun _ => rfl) (hw (i := 36) (j := 20) rfl rfl) (fun _ z => z) dX12_readClass_213 hk) ?_
  refine rz_All_c (i := 94) (fun k J hk hJ => rz_iload_ok (pc := 216) hx hb dX12_readClass_216 hk) ?_
  refine rz_All_c (i := 95) (fun k J hk hJ => rz_aload_n_ok (pc := 218) hx hb dX12_readClass_218 rfl hk) ?_
  refine rz_All_c (i := 96) (fun k J hk hJ => rz_getf_ok (pc := 219) (own := RX12) (ref := "ThreadJudgeModel") (C := RX12) (T := TX12) (N := 257) (ci := 14) (index := 693) (f := 31) (t := 0) (Ts := Cond.code yX12_readClass cX12_readClass 6 (some .boolean) :: rz_TB) hx hb hts rz_in14 ho hK rfl (by decide) rfl (fun _ => rfl) (hw (i := 32) (j := 19) rfl rfl) (fun _ z => z) dX12_readClass_219 hk) ?_
  refine rz_All_c (i := 97) (fun k J hk hJ => rz_iast_ok (pc := 222) hx hb hK hA dX12_readClass_222 hk) ?_
  refine rz_All_c (i := 98) (fun k J hk hJ => rz_aload_n_ok (pc := 223) hx hb dX12_readClass_223 rfl hk) ?_
  refine rz_All_c (i := 99) (fun k J hk hJ => rz_iconst_ok (pc := 224) hx hb dX12_readClass_224 rfl hk) ?_
  refine rz_All_c (i := 100) (fun k J hk hJ => rz_callV_ok (pc := 225) (own := RX12) (C := RX12) (T0 := TX12) (N0 := 257) hC rfl (rmX12_isWord l hG) (rz_cwV 1 hC rz_good (rz_mem (i := 37) (j := 0) rfl rfl) (rz_mem (i := 37) (j := 1) rfl rfl) (rz_mem (i := 37) (j := 2) rfl rfl) (rz_mem (i := 32) (j := 8) rfl rfl) (rz_mem (i := 37) (j := 3) rfl rfl) ⟨rfl, by decide, by decide, by decide +kernel⟩ rfl rfl ⟨by decide, by decide⟩) rfl dX12_readClass_225 hk) ?_
  refine rz_All_c (i := 101) (fun k J hk hJ => rz_ifeq_ok (pc := 228) hx hb dX12_readClass_228 rfl hk (hJ 120)) ?_
  refine rz_All_c (i := 102) (fun k J hk hJ => rz_aload_n_ok (pc := 231) hx hb dX12_readClass_231 rfl hk) ?_
  refine rz_All_c (i := 103) (fun k J hk hJ => rz_callVv_ok (pc := 232) (own := RX12) (C := RX12) (T0 := TX12) (N0 := 257) hC rfl (rmX12_next l hG) (rz_cwV 0 hC rz_good (rz_mem (i := 34) (j := 21) rfl rfl) (rz_mem (i := 34) (j := 22) rfl rfl) (rz_mem (i := 34) (j := 23) rfl rfl) (rz_mem (i := 32) (j := 8) rfl rfl) (rz_mem (i := 35) (j := 0) rfl rfl) ⟨rfl, by decide, by decide, by decide +kernel⟩ rfl rfl ⟨by decide, by decide⟩) rfl dX12_readClass_232 hk) ?_
  refine rz_All_c (i := 104) (fun k J hk hJ => rz_aload_n_ok (pc := 235) hx hb dX12_readClass_235 rfl hk) ?_
  refine rz_All_c (i := 105) (fun k J hk hJ => rz_callV_ok (pc := 236) (own := RX12) (C := RX12) (T0 := TX12) (N0 := 257) hC rfl (rmX12_name l hG) (rz_cwV 0 hC rz_good (rz_mem (i := 38) (j := 4) rfl rfl) (rz_mem (i := 38) (j := 5) rfl rfl) (rz_mem (i := 38) (j := 6) rfl rfl) (rz_mem (i := 32) (j := 8) rfl rfl) (rz_mem (i := 38) (j := 7) rfl rfl) ⟨rfl, by decide, by decide, by decide +kernel⟩ rfl rfl ⟨by decide, by decide⟩) rfl dX12_readClass_236 hk) ?_
  refine rz_All_c (i := 106) (fun k J hk hJ => rz_ifne_ok (pc := 239) hx hb dX12_readClass_239 rfl hk (hJ 108)) ?_
  refine rz_All_c (i := 107) (fun k J hk hJ => rz_no_ok) ?_
  refine rz_All_c (i := 108) (fun k J hk hJ => rz_aload_n_ok (pc := 244) hx hb dX12_readClass_244 rfl hk) ?_
  refine rz_All_c (i := 109) (fun k J hk hJ => rz_getf_ok (pc := 245) (own := RX12) (ref := "ThreadJudgeModel") (C := RX12) (T := TX12) (N := 257) (ci := 14) (index := 36) (f := 19) (t := 2) (Ts := Cond.code yX12_readClass cX12_readClass 6 (some .boolean) :: rz_TB) hx hb hts rz_in14 ho hK rfl (by decide) rfl (fun _ => rfl) (hw (i := 36) (j := 17) rfl rfl) (fun _ z => z) dX12_readClass_245 hk) ?_
  refine rz_All_c (i := 110) (fun k J hk hJ => rz_iload_ok (pc := 248) hx hb dX12_readClass_248 hk) ?_
  refine rz_All_c (i := 111) (fun k J hk hJ => rz_aload_n_ok (pc := 250) hx hb dX12_readClass_250 rfl hk) ?_
  refine rz_All_c (i := 112) (fun k J hk hJ => rz_getf_ok (pc := 251) (own := RX12) (ref := "ThreadJudgeModel") (C := RX12) (T := TX12) (N := 257) (ci := 14) (index := 669) (f := 66) (t := 0) (Ts := Cond.code yX12_readClass cX12_readClass 6 (some .boolean) :: rz_TB) hx hb hts rz_in14 ho hK rfl (by decide) rfl (fun _ => rfl) (hw (i := 36) (j := 11) rfl rfl) (fun _ z => z) dX12_readClass_251 hk) ?_
  refine rz_All_c (i := 113) (fun k J hk hJ => rz_iast_ok (pc := 254) hx hb hK hA dX12_readClass_254 hk) ?_
  refine rz_All_c (i := 114) (fun k J hk hJ => rz_aload_n_ok (pc := 255) hx hb dX12_readClass_255 rfl hk) ?_
  refine rz_All_c (i := 115) (fun k J hk hJ => rz_getf_ok (pc := 256) (own := RX12) (ref := "ThreadJudgeModel") (C := RX12) (T := TX12) (N := 257) (ci := 14) (index := 39) (f := 20) (t := 2) (Ts := Cond.code yX12_readClass cX12_readClass 6 (some .boolean) :: rz_TB) hx hb hts rz_in14 ho hK rfl (by decide) rfl (fun _ => rfl) (hw (i := 36) (j := 21) rfl rfl) (fun _ z => z) dX12_readClass_256 hk) ?_
  refine rz_All_c (i := 116) (fun k J hk hJ => rz_iload_ok (pc := 259) hx hb dX12_readClass_259 hk) ?_
  refine rz_All_c (i := 117) (fun k J hk hJ => rz_aload_n_ok (pc := 261) hx hb dX12_readClass_261 rfl hk) ?_
  refine rz_All_c (i := 118) (fun k J hk hJ => rz_getf_ok (pc := 262) (own := RX12) (ref := "ThreadJudgeModel") (C := RX12) (T := TX12) (N := 257) (ci := 14) (index := 672) (f := 67) (t := 0) (Ts := Cond.code yX12_readClass cX12_readClass 6 (some .boolean) :: rz_TB) hx hb hts rz_in14 ho hK rfl (by decide) rfl (fun _ => rfl) (hw (i := 36) (j := 13) rfl rfl) (fun _ z => z) dX12_readClass_262 hk) ?_
  refine rz_All_c (i := 119) (fun k J hk hJ => rz_iast_ok (pc := 265) hx hb hK hA dX12_readClass_265 hk) ?_
  refine rz_All_c (i := 120) (fun k J hk hJ => rz_aload_n_ok (pc := 266) hx hb dX12_readClass_266 rfl hk) ?_
  refine rz_All_c (i := 121) (fun k J hk hJ => rz_iconst_ok (pc := 267) hx hb dX12_readClass_267 rfl hk) ?_
  refine rz_All_c (i := 122) (fun k J hk hJ => rz_callV_ok (pc := 268) (own := RX12) (C := RX12) (T0 := TX12) (N0 := 257) hC rfl (rmX12_isWord l hG) (rz_cwV 1 hC rz_good (rz_mem (i := 37) (j := 0) rfl rfl) (rz_mem (i := 37) (j := 1) rfl rfl) (rz_mem (i := 37) (j := 2) rfl rfl) (rz_mem (i := 32) (j := 8) rfl rfl) (rz_mem (i := 37) (j := 3) rfl rfl) ⟨rfl, by decide, by decide, by decide +kernel⟩ rfl rfl ⟨by decide, by decide⟩) rfl dX12_readClass_268 hk) ?_
  refine rz_All_c (i := 123) (fun k J hk hJ => rz_istore_ok (pc := 271) hx hb dX12_readClass_271 hk) ?_
  refine rz_All_c (i := 124) (fun k J hk hJ => rz_iload_ok (pc := 273) hx hb dX12_readClass_273 hk) ?_
  refine rz_All_c (i := 125) (fun k J hk hJ => rz_ifeq_ok (pc := 275) hx hb dX12_readClass_275 rfl hk (hJ 181)) ?_
  refine rz_All_c (i := 126) (fun k J hk hJ => rz_aload_n_ok (pc := 278) hx hb dX12_readClass_278 rfl hk) ?_
  refine rz_All_c (i := 127) (fun k J hk hJ => rz_callVv_ok (pc := 279) (own := RX12) (C := RX12) (T0 := TX12) (N0 := 257) hC rfl (rmX12_next l hG) (rz_cwV 0 hC rz_good (rz_mem (i := 34) (j := 21) rfl rfl) (rz_mem (i := 34) (j := 22) rfl rfl) (rz_mem (i := 34) (j := 23) rfl rfl) (rz_mem (i := 32) (j := 8) rfl rfl) (rz_mem (i := 35) (j := 0) rfl rfl) ⟨rfl, by decide, by decide, by decide +kernel⟩ rfl rfl ⟨by decide, by decide⟩) rfl dX12_readClass_279 hk) ?_
  refine rz_All_c (i := 128) (fun k J hk hJ => rz_aload_n_ok (pc := 282) hx hb dX12_readClass_282 rfl hk) ?_
  refine rz_All_c (i := 129) (fun k J hk hJ => rz_callV_ok (pc := 283) (own := RX12) (C := RX12) (T0 := TX12) (N0 := 257) hC rfl (rmX12_isName l hG) (rz_cwV 0 hC rz_good (rz_mem (i := 37) (j := 20) rfl rfl) (rz_mem (i := 37) (j := 21) rfl rfl) (rz_mem (i := 37) (j := 22) rfl rfl) (rz_mem (i := 32) (j := 8) rfl rfl) (rz_mem (i := 37) (j := 23) rfl rfl) ⟨rfl, by decide, by decide, by decide +kernel⟩ rfl rfl ⟨by decide, by decide⟩) rfl dX12_readClass_283 hk) ?_
  refine rz_All_c (i := 130) (fun k J hk hJ => rz_ifeq_ok (pc := 286) hx hb dX12_readClass_286 rfl hk (hJ 138)) ?_
  refine rz_All_c (i := 131) (fun k J hk hJ => rz_aload_n_ok (pc := 289) hx hb dX12_readClass_289 rfl hk) ?_
  refine rz_All_c (i := 132) (fun k J hk hJ => rz_getf_ok (pc := 290) (own := RX12) (ref := "ThreadJudgeModel") (C := RX12) (T := TX12) (N := 257) (ci := 14) (index := 42) (f := 21) (t := 2) (Ts := Cond.code yX12_readClass cX12_readClass 6 (some .boolean) :: rz_TB) hx hb hts rz_in14 ho hK rfl (by decide) rfl (fun _ => rfl) (hw (i := 36) (j := 18) rfl rfl) (fun _ z => z) dX12_readClass_290 hk) ?_
  refine rz_All_c (i := 133) (fun k J hk hJ => rz_iload_ok (pc := 293) hx hb dX12_readClass_293 hk) ?_
  refine rz_All_c (i := 134) (fun k J hk hJ => rz_iald_ok (pc := 295) hx hb hK dX12_readClass_295 hk) ?_
  refine rz_All_c (i := 135) (fun k J hk hJ => rz_bipush_ok (pc := 296) hx hb dX12_readClass_296 (by decide) hk) ?_
  refine rz_All_c (i := 136) (fun k J hk hJ => rz_icmpne_ok (pc := 298) hx hb dX12_readClass_298 rfl hk (hJ 138)) ?_
  refine rz_All_c (i := 137) (fun k J hk hJ => rz_no_ok) ?_
  refine rz_All_c (i := 138) (fun k J hk hJ => rz_aload_n_ok (pc := 306) hx hb dX12_readClass_306 rfl hk) ?_
  refine rz_All_c (i := 139) (fun k J hk hJ => rz_callV_ok (pc := 307) (own := RX12) (C := RX12) (T0 := TX12) (N0 := 257) hC rfl (rmX12_name l hG) (rz_cwV 0 hC rz_good (rz_mem (i := 38) (j := 4) rfl rfl) (rz_mem (i := 38) (j := 5) rfl rfl) (rz_mem (i := 38) (j := 6) rfl rfl) (rz_mem (i := 32) (j := 8) rfl rfl) (rz_mem (i := 38) (j := 7) rfl rfl) ⟨rfl, by decide, by decide, by decide +kernel⟩ rfl rfl ⟨by decide, by decide⟩) rfl dX12_readClass_307 hk) ?_
  refine rz_All_c (i := 140) (fun k J hk hJ => rz_ifne_ok (pc := 310) hx hb dX12_readClass_310 rfl hk (hJ 142)) ?_
  refine rz_All_c (i := 141) (fun k J hk hJ => rz_no_ok) ?_
  refine rz_All_c (i := 142) (fun k J hk hJ => rz_aload_n_ok (pc := 315) hx hb dX12_readClass_315 rfl hk) ?_
  refine rz_All_c (i := 143) (fun k J hk hJ => rz_getf_ok (pc := 316) (own := RX12) (ref := "ThreadJudgeModel") (C := RX12) (T := TX12) (N := 257) (ci := 14) (index := 45) (f := 22) (t := 2) (Ts := Cond.code yX12_readClass cX12_readClass 6 (some .boolean) :: rz_TB) hx hb hts rz_in14 ho hK rfl (by decide) rfl (fun _ => rfl) (hw (i := 36) (j := 22) rfl rfl) (fun _ z => z) dX12_readClass_316 hk) ?_
  refine rz_All_c (i := 144) (fun k J hk hJ => rz_bipush_ok (pc := 319) hx hb dX12_readClass_319 (by decide) hk) ?_
  refine rz_All_c (i := 145) (fun k J hk hJ => rz_iload_ok (pc := 321) hx hb dX12_readClass_321 hk) ?_
  refine rz_All_c (i := 146) (fun k J hk hJ => rz_imul_ok (pc := 323) hx hb dX12_readClass_323 hk) ?_
  refine rz_All_c (i := 147) (fun k J hk hJ => rz_aload_n_ok (pc := 324) hx hb dX12_readClass_324 rfl hk) ?_
  refine rz_All_c (i := 148) (fun k J hk hJ => rz_getf_ok (pc := 325) (own := RX12) (ref := "ThreadJudgeModel") (C := RX12) (T := TX12) (N := 257) (ci := 14) (index := 42) (f := 21) (t := 2) (Ts := Cond.code yX12_readClass cX12_readClass 6 (some .boolean) :: rz_TB) hx hb hts rz_in14 ho hK rfl (by decide) rfl (fun _ => rfl) (hw (i := 36) (j := 18) rfl rfl) (fun _ z => z) dX12_readClass_325 hk) ?_
  refine rz_All_c (i := 149) (fun k J hk hJ => rz_iload_ok (pc := 328) hx hb dX12_readClass_328 hk) ?_
  refine rz_All_c (i := 150) (fun k J hk hJ => rz_iald_ok (pc := 330) hx hb hK dX12_readClass_330 hk) ?_
  refine rz_All_c (i := 151) (fun k J hk hJ => rz_iadd_ok (pc := 331) hx hb dX12_readClass_331 hk) ?_
  refine rz_All_c (i := 152) (fun k J hk hJ => rz_aload_n_ok (pc := 332) hx hb dX12_readClass_332 rfl hk) ?_
  refine rz_All_c (i := 153) (fun k J hk hJ => rz_getf_ok (pc := 333) (own := RX12) (ref := "ThreadJudgeModel") (C := RX12) (T := TX12) (N := 257) (ci := 14) (index := 669) (f := 66) (t := 0) (Ts := Cond.code yX12_readClass cX12_readClass 6 (some .boolean) :: rz_TB) hx hb hts rz_in14 ho hK rfl (by decide) rfl (fun _ => rfl) (hw (i := 36) (j := 11) rfl rfl) (fun _ z => z) dX12_readClass_333 hk) ?_
  refine rz_All_c (i := 154) (fun k J hk hJ => rz_iast_ok (pc := 336) hx hb hK hA dX12_readClass_336 hk) ?_
  refine rz_All_c (i := 155) (fun k J hk hJ => rz_aload_n_ok (pc := 337) hx hb dX12_readClass_337 rfl hk) ?_
  refine rz_All_c (i := 156) (fun k J hk hJ => rz_getf_ok (pc := 338) (own := RX12) (ref := "ThreadJudgeModel") (C := RX12) (T := TX12) (N := 257) (ci := 14) (index := 48) (f := 23) (t := 2) (Ts := Cond.code yX12_readClass cX12_readClass 6 (some .boolean) :: rz_TB) hx hb hts rz_in14 ho hK rfl (by decide) rfl (fun _ => rfl) (hw (i := 36) (j := 23) rfl rfl) (fun _ z => z) dX12_readClass_338 hk) ?_
  refine rz_All_c (i := 157) (fun k J hk hJ => rz_bipush_ok (pc := 341) hx hb dX12_readClass_341 (by decide) hk) ?_
  refine rz_All_c (i := 158) (fun k J hk hJ => rz_iload_ok (pc := 343) hx hb dX12_readClass_343 hk) ?_
  refine rz_All_c (i := 159) (fun k J hk hJ => rz_imul_ok (pc := 345) hx hb dX12_readClass_345 hk) ?_
  refine rz_All_c (i := 160) (fun k J hk hJ => rz_aload_n_ok (pc := 346) hx hb dX12_readClass_346 rfl hk) ?_
  refine rz_All_c (i := 161) (fun k J hk hJ => rz_getf_ok (pc := 347) (own := RX12) (ref := "ThreadJudgeModel") (C := RX12) (T := TX12) (N := 257) (ci := 14) (index := 42) (f := 21) (t := 2) (Ts := Cond.code yX12_readClass cX12_readClass 6 (some .boolean) :: rz_TB) hx hb hts rz_in14 ho hK rfl (by decide) rfl (fun _ => rfl) (hw (i := 36) (j := 18) rfl rfl) (fun _ z => z) dX12_readClass_347 hk) ?_
  refine rz_All_c (i := 162) (fun k J hk hJ => rz_iload_ok (pc := 350) hx hb dX12_readClass_350 hk) ?_
  refine rz_All_c (i := 163) (fun k J hk hJ => rz_iald_ok (pc := 352) hx hb hK dX12_readClass_352 hk) ?_
  refine rz_All_c (i := 164) (fun k J hk hJ => rz_iadd_ok (pc := 353) hx hb dX12_readClass_353 hk) ?_
  refine rz_All_c (i := 165) (fun k J hk hJ => rz_aload_n_ok (pc := 354) hx hb dX12_readClass_354 rfl hk) ?_
  refine rz_All_c (i := 166) (fun k J hk hJ => rz_getf_ok (pc := 355) (own := RX12) (ref := "ThreadJudgeModel") (C := RX12) (T := TX12) (N := 257) (ci := 14) (index := 672) (f := 67) (t := 0) (Ts := Cond.code yX12_readClass cX12_readClass 6 (some .boolean) :: rz_TB) hx hb hts rz_in14 ho hK rfl (by decide) rfl (fun _ => rfl) (hw (i := 36) (j := 13) rfl rfl) (fun _ z => z) dX12_readClass_355 hk) ?_
  refine rz_All_c (i := 167) (fun k J hk hJ => rz_iast_ok (pc := 358) hx hb hK hA dX12_readClass_358 hk) ?_
  refine rz_All_c (i := 168) (fun k J hk hJ => rz_aload_n_ok (pc := 359) hx hb dX12_readClass_359 rfl hk) ?_
  refine rz_All_c (i := 169) (fun k J hk hJ => rz_getf_ok (pc := 360) (own := RX12) (ref := "ThreadJudgeModel") (C := RX12) (T := TX12) (N := 257) (ci := 14) (index := 42) (f := 21) (t := 2) (Ts := Cond.code yX12_readClass cX12_readClass 6 (some .boolean) :: rz_TB) hx hb hts rz_in14 ho hK rfl (by decide) rfl (fun _ => rfl) (hw (i := 36) (j := 18) rfl rfl) (fun _ z => z) dX12_readClass_360 hk) ?_
  refine rz_All_c (i := 170) (fun k J hk hJ => rz_iload_ok (pc := 363) hx hb dX12_readClass_363 hk) ?_
  refine rz_All_c (i := 171) (fun k J hk hJ => rz_dup2_ok (pc := 365) hx hb dX12_readClass_365 hk) ?_
  refine rz_All_c (i := 172) (fun k J hk hJ => rz_iald_ok (pc := 366) hx hb hK dX12_readClass_366 hk) ?_
  refine rz_All_c (i := 173) (fun k J hk hJ => rz_iconst_ok (pc := 367) hx hb dX12_readClass_367 rfl hk) ?_
  refine rz_All_c (i := 174) (fun k J hk hJ => rz_iadd_ok (pc := 368) hx hb dX12_readClass_368 hk) ?_
  refine rz_All_c (i := 175) (fun k J hk hJ => rz_iast_ok (pc := 369) hx hb hK hA dX12_readClass_369 hk) ?_
  refine rz_All_c (i := 176) (fun k J hk hJ => rz_aload_n_ok (pc := 370) hx hb dX12_readClass_370 rfl hk) ?_
  refine rz_All_c (i := 177) (fun k J hk hJ => rz_bipush_ok (pc := 371) hx hb dX12_readClass_371 (by decide) hk) ?_
  refine rz_All_c (i := 178) (fun k J hk hJ => rz_callV_ok (pc := 373) (own := RX12) (C := RX12) (T0 := TX12) (N0 := 257) hC rfl (rmX12_isSign l hG) (rz_cwV 1 hC rz_good (rz_mem (i := 38) (j := 8) rfl rfl) (rz_mem (i := 38) (j := 9) rfl rfl) (rz_mem (i := 38) (j := 10) rfl rfl) (rz_mem (i := 32) (j := 8) rfl rfl) (rz_mem (i := 38) (j := 11) rfl rfl) ⟨rfl, by decide, by decide, by decide +kernel⟩ rfl rfl ⟨by decide, by decide⟩) rfl dX12_readClass_373 hk) ?_
  refine rz_All_c (i := 179) (fun k J hk hJ => rz_istore_ok (pc := 376) hx hb dX12_readClass_376 hk) ?_
  refine rz_All_c (i := 180) (fun k J hk hJ => rz_goto_ok (pc := 378) hx hb dX12_readClass_378 rfl (hJ 124)) ?_
  refine rz_All_c (i := 181) (fun k J hk hJ => rz_aload_n_ok (pc := 381) hx hb dX12_readClass_381 rfl hk) ?_
  refine rz_All_c (i := 182) (fun k J hk hJ => rz_bipush_ok (pc := 382) hx hb dX12_readClass_382 (by decide) hk) ?_
  refine rz_All_c (i := 183) (fun k J hk hJ => rz_callV_ok (pc := 384) (own := RX12) (C := RX12) (T0 := TX12) (N0 := 257) hC rfl (rmX12_sign l hG) (rz_cwV 1 hC rz_good (rz_mem (i := 38) (j := 12) rfl rfl) (rz_mem (i := 38) (j := 13) rfl rfl) (rz_mem (i := 38) (j := 14) rfl rfl) (rz_mem (i := 32) (j := 8) rfl rfl) (rz_mem (i := 38) (j := 15) rfl rfl) ⟨rfl, by decide, by decide, by decide +kernel⟩ rfl rfl ⟨by decide, by decide⟩) rfl dX12_readClass_384 hk) ?_
  refine rz_All_c (i := 184) (fun k J hk hJ => rz_ifne_ok (pc := 387) hx hb dX12_readClass_387 rfl hk (hJ 186)) ?_
  refine rz_All_c (i := 185) (fun k J hk hJ => rz_no_ok) ?_
  refine rz_All_c (i := 186) (fun k J hk hJ => rz_aload_n_ok (pc := 392) hx hb dX12_readClass_392 rfl hk) ?_
  refine rz_All_c (i := 187) (fun k J hk hJ => rz_dup_ok (pc := 393) hx hb dX12_readClass_393 hk) ?_
  refine rz_All_c (i := 188) (fun k J hk hJ => rz_getf_ok (pc := 394) (own := RX12) (ref := "ThreadJudgeModel") (C := RX12) (T := TX12) (N := 257) (ci := 14) (index := 684) (f := 13) (t := 0) (Ts := Cond.code yX12_readClass cX12_readClass 6 (some .boolean) :: rz_TB) hx hb hts rz_in14 ho hK rfl (by decide) rfl (fun _ => rfl) (hw (i := 32) (j := 17) rfl rfl) (fun _ z => z) dX12_readClass_394 hk) ?_
  refine rz_All_c (i := 189) (fun k J hk hJ => rz_iconst_ok (pc := 397) hx hb dX12_readClass_397 rfl hk) ?_
  refine rz_All_c (i := 190) (fun k J hk hJ => rz_iadd_ok (pc := 398) hx hb dX12_readClass_398 hk) ?_
  refine rz_All_c (i := 191) (fun k J hk hJ => rz_putf_ok (pc := 399) (own := RX12) (ref := "ThreadJudgeModel") (C := RX12) (T := TX12) (N := 257) (ci := 14) (index := 684) (f := 13) (t := 0) (Ts := Cond.code yX12_readClass cX12_readClass 6 (some .boolean) :: rz_TB) hx hb hts rz_in14 tyX12 tyX12_ok nmX12 ho hK hA rfl (by decide) rfl (rz_UnI _) rfl (tyX12_ok 13 (by decide)) (hw (i := 32) (j := 17) rfl rfl) (fun _ z => z) dX12_readClass_399 hk) ?_
  refine rz_All_c (i := 192) (fun k J hk hJ => rz_aload_n_ok (pc := 402) hx hb dX12_readClass_402 rfl hk) ?_
  refine rz_All_c (i := 193) (fun k J hk hJ => rz_bipush_ok (pc := 403) hx hb dX12_readClass_403 (by decide) hk) ?_
  refine rz_All_c (i := 194) (fun k J hk hJ => rz_callV_ok (pc := 405) (own := RX12) (C := RX12) (T0 := TX12) (N0 := 257) hC rfl (rmX12_isSign l hG) (rz_cwV 1 hC rz_good (rz_mem (i := 38) (j := 8) rfl rfl) (rz_mem (i := 38) (j := 9) rfl rfl) (rz_mem (i := 38) (j := 10) rfl rfl) (rz_mem (i := 32) (j := 8) rfl rfl) (rz_mem (i := 38) (j := 11) rfl rfl) ⟨rfl, by decide, by decide, by decide +kernel⟩ rfl rfl ⟨by decide, by decide⟩) rfl dX12_readClass_405 hk) ?_
  refine rz_All_c (i := 195) (fun k J hk hJ => rz_ifne_ok (pc := 408) hx hb dX12_readClass_408 rfl hk (hJ 201)) ?_
  refine rz_All_c (i := 196) (fun k J hk hJ => rz_aload_n_ok (pc := 411) hx hb dX12_readClass_411 rfl hk) ?_
  refine rz_All_c (i := 197) (fun k J hk hJ => rz_iload_ok (pc := 412) hx hb dX12_readClass_412 hk) ?_
  refine rz_All_c (i := 198) (fun k J hk hJ => rz_callV_ok (pc := 414) (own := RX12) (C := RX12) (T0 := TX12) (N0 := 257) hC rfl (rmX12_readMember l hG) (rz_cwV 1 hC rz_good (rz_mem (i := 38) (j := 16) rfl rfl) (rz_mem (i := 38) (j := 17) rfl rfl) (rz_mem (i := 38) (j := 18) rfl rfl) (rz_mem (i := 32) (j := 8) rfl rfl) (rz_mem (i := 38) (j := 19) rfl rfl) ⟨rfl, by decide, by decide, by decide +kernel⟩ rfl rfl ⟨by decide, by decide⟩) rfl dX12_readClass_414 hk) ?_
  refine rz_All_c (i := 199) (fun k J hk hJ => rz_ifne_ok (pc := 417) hx hb dX12_readClass_417 rfl hk (hJ 192)) ?_
  refine rz_All_c (i := 200) (fun k J hk hJ => rz_no_ok) ?_
  refine rz_All_c (i := 201) (fun k J hk hJ => rz_aload_n_ok (pc := 422) hx hb dX12_readClass_422 rfl hk) ?_
  refine rz_All_c (i := 202) (fun k J hk hJ => rz_callVv_ok (pc := 423) (own := RX12) (C := RX12) (T0 := TX12) (N0 := 257) hC rfl (rmX12_next l hG) (rz_cwV 0 hC rz_good (rz_mem (i := 34) (j := 21) rfl rfl) (rz_mem (i := 34) (j := 22) rfl rfl) (rz_mem (i := 34) (j := 23) rfl rfl) (rz_mem (i := 32) (j := 8) rfl rfl) (rz_mem (i := 35) (j := 0) rfl rfl) ⟨rfl, by decide, by decide, by decide +kernel⟩ rfl rfl ⟨by decide, by decide⟩) rfl dX12_readClass_423 hk) ?_
  refine rz_All_c (i := 203) (fun k J hk hJ => rz_aload_n_ok (pc := 426) hx hb dX12_readClass_426 rfl hk) ?_
  refine rz_All_c (i := 204) (fun k J hk hJ => rz_getf_ok (pc := 427) (own := RX12) (ref := "ThreadJudgeModel") (C := RX12) (T := TX12) (N := 257) (ci := 14) (index := 51) (f := 24) (t := 2) (Ts := Cond.code yX12_readClass cX12_readClass 6 (some .boolean) :: rz_TB) hx hb hts rz_in14 ho hK rfl (by decide) rfl (fun _ => rfl) (hw (i := 36) (j := 19) rfl rfl) (fun _ z => z) dX12_readClass_427 hk) ?_
  refine rz_All_c (i := 205) (fun k J hk hJ => rz_aload_n_ok (pc := 430) hx hb dX12_readClass_430 rfl hk) ?_
  refine rz_All_c (i := 206) (fun k J hk hJ => rz_getf_ok (pc := 431) (own := RX12) (ref := "ThreadJudgeModel") (C := RX12) (T := TX12) (N := 257) (ci := 14) (index := 684) (f := 13) (t := 0) (Ts := Cond.code yX12_readClass cX12_readClass 6 (some .boolean) :: rz_TB) hx hb hts rz_in14 ho hK rfl (by decide) rfl (fun _ => rfl) (hw (i := 32) (j := 17) rfl rfl) (fun _ z => z) dX12_readClass_431 hk) ?_
  refine rz_All_c (i := 207) (fun k J hk hJ => rz_aload_n_ok (pc := 434) hx hb dX12_readClass_434 rfl hk) ?_
  refine rz_All_c (i := 208) (fun k J hk hJ => rz_getf_ok (pc := 435) (own := RX12) (ref := "ThreadJudgeModel") (C := RX12) (T := TX12) (N := 257) (ci := 14) (index := 690) (f := 26) (t := 0) (Ts := Cond.code yX12_readClass cX12_readClass 6 (some .boolean) :: rz_TB) hx hb hts rz_in14 ho hK rfl (by decide) rfl (fun _ => rfl) (hw (i := 32) (j := 18) rfl rfl) (fun _ z => z) dX12_readClass_435 hk) ?_
  refine rz_All_c (i := 209) (fun k J hk hJ => rz_iast_ok (pc := 438) hx hb hK hA dX12_readClass_438 hk) ?_
  refine rz_All_c (i := 210) (fun k J hk hJ => rz_aload_n_ok (pc := 439) hx hb dX12_readClass_439 rfl hk) ?_
  refine rz_All_c (i := 211) (fun k J hk hJ => rz_getf_ok (pc := 440) (own := RX12) (ref := "ThreadJudgeModel") (C := RX12) (T := TX12) (N := 257) (ci := 14) (index := 54) (f := 25) (t := 2) (Ts := Cond.code yX12_readClass cX12_readClass 6 (some .boolean) :: rz_TB) hx hb hts rz_in14 ho hK rfl (by decide) rfl (fun _ => rfl) (hw (i := 36) (j := 20) rfl rfl) (fun _ z => z) dX12_readClass_440 hk) ?_
  refine rz_All_c (i := 212) (fun k J hk hJ => rz_aload_n_ok (pc := 443) hx hb dX12_readClass_443 rfl hk) ?_
  refine rz_All_c (i := 213) (fun k J hk hJ => rz_getf_ok (pc := 444) (own := RX12) (ref := "ThreadJudgeModel") (C := RX12) (T := TX12) (N := 257) (ci := 14) (index := 684) (f := 13) (t := 0) (Ts := Cond.code yX12_readClass cX12_readClass 6 (some .boolean) :: rz_TB) hx hb hts rz_in14 ho hK rfl (by decide) rfl (fun _ => rfl) (hw (i := 32) (j := 17) rfl rfl) (fun _ z => z) dX12_readClass_444 hk) ?_
  refine rz_All_c (i := 214) (fun k J hk hJ => rz_aload_n_ok (pc := 447) hx hb dX12_readClass_447 rfl hk) ?_
  refine rz_All_c (i := 215) (fun k J hk hJ => rz_getf_ok (pc := 448) (own := RX12) (ref := "ThreadJudgeModel") (C := RX12) (T := TX12) (N := 257) (ci := 14) (index := 693) (f := 31) (t := 0) (Ts := Cond.code yX12_readClass cX12_readClass 6 (some .boolean) :: rz_TB) hx hb hts rz_in14 ho hK rfl (by decide) rfl (fun _ => rfl) (hw (i := 32) (j := 19) rfl rfl) (fun _ z => z) dX12_readClass_448 hk) ?_
  refine rz_All_c (i := 216) (fun k J hk hJ => rz_iast_ok (pc := 451) hx hb hK hA dX12_readClass_451 hk) ?_
  refine rz_All_c (i := 217) (fun k J hk hJ => rz_iconst_ok (pc := 452) hx hb dX12_readClass_452 rfl hk) ?_
  refine rz_All_c (i := 218) (fun k J hk hJ => rz_zret_ok (pc := 453) hC dX12_readClass_453) ?_
  exact trivial
theorem dX12_readAll_0 : decode cX12_readAll 0 = .ok (.aload_n 0, 1) := by decide +kernel
theorem dX12_readAll_1 : decode cX12_readAll 1 = .ok (.getstatic 638, 3) := by decide +kernel
theorem dX12_readAll_4 : decode cX12_readAll 4 = .ok (.aload_n 0, 1) := by decide +kernel
theorem dX12_readAll_5 : decode cX12_readAll 5 = .ok (.getfield 575, 3) := by decide +kernel
theorem dX12_readAll_8 : decode cX12_readAll 8 = .ok (.iadd, 1) := by decide +kernel
theorem dX12_readAll_9 : decode cX12_readAll 9 = .ok (.putfield 578, 3) := by decide +kernel
theorem dX12_readAll_12 : decode cX12_readAll 12 = .ok (.iconst 0, 1) := by decide +kernel
theorem dX12_readAll_13 : decode cX12_readAll 13 = .ok (.istore_n 1, 1) := by decide +kernel
theorem dX12_readAll_14 : decode cX12_readAll 14 = .ok (.iload_n 1, 1) := by decide +kernel
theorem dX12_readAll_15 : decode cX12_readAll 15 = .ok (.getstatic 638, 3) := by decide +kernel
theorem dX12_readAll_18 : decode cX12_readAll 18 = .ok (.if_icmp .ge 22, 3) := by decide +kernel
theorem dX12_readAll_21 : decode cX12_readAll 21 = .ok (.aload_n 0, 1) := by decide +kernel
theorem dX12_readAll_22 : decode cX12_readAll 22 = .ok (.getfield 13, 3) := by decide +kernel
theorem dX12_readAll_25 : decode cX12_readAll 25 = .ok (.iload_n 1, 1) := by decide +kernel
theorem dX12_readAll_26 : decode cX12_readAll 26 = .ok (.ldc_w 753, 3) := by decide +kernel
theorem dX12_readAll_29 : decode cX12_readAll 29 = .ok (.iload_n 1, 1) := by decide +kernel
theorem dX12_readAll_30 : decode cX12_readAll 30 = .ok (.invokevirtual 631, 3) := by decide +kernel
theorem dX12_readAll_33 : decode cX12_readAll 33 = .ok (.iastore, 1) := by decide +kernel
theorem dX12_readAll_34 : decode cX12_readAll 34 = .ok (.iinc 1 1, 3) := by decide +kernel
theorem dX12_readAll_37 : decode cX12_readAll 37 = .ok (.goto (-23), 3) := by decide +kernel
theorem dX12_readAll_40 : decode cX12_readAll 40 = .ok (.iconst 0, 1) := by decide +kernel
theorem dX12_readAll_41 : decode cX12_readAll 41 = .ok (.istore_n 1, 1) := by decide +kernel
theorem dX12_readAll_42 : decode cX12_readAll 42 = .ok (.iload_n 1, 1) := by decide +kernel
theorem dX12_readAll_43 : decode cX12_readAll 43 = .ok (.aload_n 0, 1) := by decide +kernel
theorem dX12_readAll_44 : decode cX12_readAll 44 = .ok (.getfield 575, 3) := by decide +kernel
theorem dX12_readAll_47 : decode cX12_readAll 47 = .ok (.if_icmp .ge 25, 3) := by decide +kernel
theorem dX12_readAll_72 : decode cX12_readAll 72 = .ok (.aload_n 0, 1) := by decide +kernel
theorem dX12_readAll_73 : decode cX12_readAll 73 = .ok (.iconst 0, 1) := by decide +kernel
theorem dX12_readAll_74 : decode cX12_readAll 74 = .ok (.putfield 581, 3) := by decide +kernel
theorem dX12_readAll_77 : decode cX12_readAll 77 = .ok (.aload_n 0, 1) := by decide +kernel
theorem dX12_readAll_78 : decode cX12_readAll 78 = .ok (.iconst (-1), 1) := by decide +kernel
theorem dX12_readAll_79 : decode cX12_readAll 79 = .ok (.putfield 608, 3) := by decide +kernel
theorem dX12_readAll_82 : decode cX12_readAll 82 = .ok (.aload_n 0, 1) := by decide +kernel
theorem dX12_readAll_83 : decode cX12_readAll 83 = .ok (.iconst 0, 1) := by decide +kernel
theorem dX12_readAll_84 : decode cX12_readAll 84 = .ok (.putfield 684, 3) := by decide +kernel
theorem dX12_readAll_87 : decode cX12_readAll 87 = .ok (.aload_n 0, 1) := by decide +kernel
theorem dX12_readAll_88 : decode cX12_readAll 88 = .ok (.iconst 0, 1) := by decide +kernel
theorem dX12_readAll_89 : decode cX12_readAll 89 = .ok (.putfield 690, 3) := by decide +kernel
theorem dX12_readAll_92 : decode cX12_readAll 92 = .ok (.aload_n 0, 1) := by decide +kernel
theorem dX12_readAll_93 : decode cX12_readAll 93 = .ok (.iconst 0, 1) := by decide +kernel
theorem dX12_readAll_94 : decode cX12_readAll 94 = .ok (.putfield 693, 3) := by decide +kernel
theorem dX12_readAll_97 : decode cX12_readAll 97 = .ok (.aload_n 0, 1) := by decide +kernel
theorem dX12_readAll_98 : decode cX12_readAll 98 = .ok (.iconst 0, 1) := by decide +kernel
theorem dX12_readAll_99 : decode cX12_readAll 99 = .ok (.putfield 706, 3) := by decide +kernel
theorem dX12_readAll_102 : decode cX12_readAll 102 = .ok (.aload_n 0, 1) := by decide +kernel
theorem dX12_readAll_103 : decode cX12_readAll 103 = .ok (.iconst 0, 1) := by decide +kernel
theorem dX12_readAll_104 : decode cX12_readAll 104 = .ok (.putfield 718, 3) := by decide +kernel
theorem dX12_readAll_107 : decode cX12_readAll 107 = .ok (.aload_n 0, 1) := by decide +kernel
theorem dX12_readAll_108 : decode cX12_readAll 108 = .ok (.iconst 0, 1) := by decide +kernel
theorem dX12_readAll_109 : decode cX12_readAll 109 = .ok (.putfield 731, 3) := by decide +kernel
theorem dX12_readAll_112 : decode cX12_readAll 112 = .ok (.aload_n 0, 1) := by decide +kernel
theorem dX12_readAll_113 : decode cX12_readAll 113 = .ok (.iconst 0, 1) := by decide +kernel
theorem dX12_readAll_114 : decode cX12_readAll 114 = .ok (.putfield 721, 3) := by decide +kernel
theorem dX12_readAll_117 : decode cX12_readAll 117 = .ok (.aload_n 0, 1) := by decide +kernel
theorem dX12_readAll_118 : decode cX12_readAll 118 = .ok (.iconst 0, 1) := by decide +kernel
theorem dX12_readAll_119 : decode cX12_readAll 119 = .ok (.putfield 724, 3) := by decide +kernel
theorem dX12_readAll_122 : decode cX12_readAll 122 = .ok (.aload_n 0, 1) := by decide +kernel
theorem dX12_readAll_123 : decode cX12_readAll 123 = .ok (.iconst 0, 1) := by decide +kernel
theorem dX12_readAll_124 : decode cX12_readAll 124 = .ok (.putfield 635, 3) := by decide +kernel
theorem dX12_readAll_127 : decode cX12_readAll 127 = .ok (.aload_n 0, 1) := by decide +kernel
theorem dX12_readAll_128 : decode cX12_readAll 128 = .ok (.iconst (-1), 1) := by decide +kernel
theorem dX12_readAll_129 : decode cX12_readAll 129 = .ok (.putfield 16, 3) := by decide +kernel
theorem dX12_readAll_132 : decode cX12_readAll 132 = .ok (.aload_n 0, 1) := by decide +kernel
theorem dX12_readAll_133 : decode cX12_readAll 133 = .ok (.invokevirtual 648, 3) := by decide +kernel
theorem dX12_readAll_136 : decode cX12_readAll 136 = .ok (.aload_n 0, 1) := by decide +kernel
theorem dX12_readAll_137 : decode cX12_readAll 137 = .ok (.getfield 588, 3) := by decide +kernel
theorem dX12_readAll_140 : decode cX12_readAll 140 = .ok (.ifCond .eq 38, 3) := by decide +kernel
theorem dX12_readAll_143 : decode cX12_readAll 143 = .ok (.aload_n 0, 1) := by decide +kernel
theorem dX12_readAll_144 : decode cX12_readAll 144 = .ok (.aload_n 0, 1) := by decide +kernel
theorem dX12_readAll_145 : decode cX12_readAll 145 = .ok (.getfield 724, 3) := by decide +kernel
theorem dX12_readAll_148 : decode cX12_readAll 148 = .ok (.ifCond .ne 13, 3) := by decide +kernel
theorem dX12_readAll_151 : decode cX12_readAll 151 = .ok (.aload_n 0, 1) := by decide +kernel
theorem dX12_readAll_152 : decode cX12_readAll 152 = .ok (.getfield 591, 3) := by decide +kernel
theorem dX12_readAll_155 : decode cX12_readAll 155 = .ok (.getstatic 638, 3) := by decide +kernel
theorem dX12_readAll_158 : decode cX12_readAll 158 = .ok (.if_icmp .lt 7, 3) := by decide +kernel
theorem dX12_readAll_165 : decode cX12_readAll 165 = .ok (.iconst 0, 1) := by decide +kernel
theorem dX12_readAll_166 : decode cX12_readAll 166 = .ok (.putfield 724, 3) := by decide +kernel
theorem dX12_readAll_169 : decode cX12_readAll 169 = .ok (.aload_n 0, 1) := by decide +kernel
theorem dX12_readAll_170 : decode cX12_readAll 170 = .ok (.invokevirtual 755, 3) := by decide +kernel
theorem dX12_readAll_173 : decode cX12_readAll 173 = .ok (.ifCond .ne (-37), 3) := by decide +kernel
theorem dX12_readAll_178 : decode cX12_readAll 178 = .ok (.iconst 1, 1) := by decide +kernel
theorem dX12_readAll_179 : decode cX12_readAll 179 = .ok (.ireturn, 1) := by decide +kernel
def rpX12_readAll : List Nat := [0, 1, 4, 5, 8, 9, 12, 13, 14, 15, 18, 21, 22, 25, 26, 29, 30, 33, 34, 37, 40, 41, 42, 43, 44, 47, 50, 72, 73, 74, 77, 78, 79, 82, 83, 84, 87, 88, 89, 92, 93, 94, 97, 98, 99, 102, 103, 104, 107, 108, 109, 112, 113, 114, 117, 118, 119, 122, 123, 124, 127, 128, 129, 132, 133, 136, 137, 140, 143, 144, 145, 148, 151, 152, 155, 158, 161, 165, 166, 169, 170, 173, 176, 178, 179]
noncomputable def rcX12_readAll : List rz_B := [rz_aload 0, rz_cst 1192, rz_aload 0, rz_getf (Nat.add (Nat.mul 256 14) 1) 1 rz_i, rz_iadd, rz_putf (Nat.add (Nat.mul 256 14) 1) 3 rz_unI, rz_cst 0, rz_istore 1, rz_iload 1, rz_cst 1192, rz_icmpge 20, rz_aload 0, rz_getf (Nat.add (Nat.mul 256 14) 1) 2 rz_r, rz_iload 1, rz_txt 1000011, rz_iload 1, rz_callT 1 rgJ0_charAt_5068e_f, rz_iast, rz_iinc 1 1, rz_goto 8, rz_cst 0, rz_istore 1, rz_iload 1, rz_aload 0, rz_getf (Nat.add (Nat.mul 256 14) 1) 1 rz_i, rz_icmpge 27, rz_no, rz_aload 0, rz_cst 0, rz_putf (Nat.add (Nat.mul 256 14) 1) 4 rz_unI, rz_aload 0, rz_cst 4294967295, rz_putf (Nat.add (Nat.mul 256 14) 1) 9 rz_unI, rz_aload 0, rz_cst 0, rz_putf (Nat.add (Nat.mul 256 14) 1) 13 rz_unI, rz_aload 0, rz_cst 0, rz_putf (Nat.add (Nat.mul 256 14) 1) 26 rz_unI, rz_aload 0, rz_cst 0, rz_putf (Nat.add (Nat.mul 256 14) 1) 31 rz_unI, rz_aload 0, rz_cst 0, rz_putf (Nat.add (Nat.mul 256 14) 1) 43 rz_unI, rz_aload 0, rz_cst 0, rz_putf (Nat.add (Nat.mul 256 14) 1) 54 rz_unI, rz_aload 0, rz_cst 0, rz_putf (Nat.add (Nat.mul 256 14) 1) 62 rz_unI, rz_aload 0, rz_cst 0, rz_putf (Nat.add (Nat.mul 256 14) 1) 65 rz_unI, rz_aload 0, rz_cst 0, rz_putf (Nat.add (Nat.mul 256 14) 1) 12 rz_unZ, rz_aload 0, rz_cst 0, rz_putf (Nat.add (Nat.mul 256 14) 1) 10 rz_unI, rz_aload 0, rz_cst 4294967295, rz_putf (Nat.add (Nat.mul 256 14) 1) 11 rz_unI, rz_aload 0, rz_callVv 0 (Nat.add (Nat.mul 256 14) 1) rgX12_next, rz_aload 0, rz_getf (Nat.add (Nat.mul 256 14) 1) 5 rz_i, rz_ifeq 83, rz_aload 0, rz_aload 0, rz_getf (Nat.add (Nat.mul 256 14) 1) 12 rz_i, rz_ifne 76, rz_aload 0, rz_getf (Nat.add (Nat.mul 256 14) 1) 6 rz_i, rz_cst 1192, rz_icmplt 77, rz_no, rz_cst 0, rz_putf (Nat.add (Nat.mul 256 14) 1) 12 rz_unZ, rz_aload 0, rz_callV 0 (Nat.add (Nat.mul 256 14) 1) rgX12_readClass, rz_ifne 65, rz_no, rz_cst 1, rz_zret]
noncomputable def rgX12_readAll : rz_L → rz_M → rz_Z → Bool := rz_go rcX12_readAll 2 1000000
def rrX12_readAll : Room := { frames := 14, cells := 0, slots := 0, locals := 354 }
theorem rmX12_readAll (l : Launch) {G : rz_G} (hG : rz_Gd G) (vs : rz_L) (M : rz_M) (Z : rz_Z) (hn : vs.length = 1) (h : rgX12_readAll vs M Z = true) : Met l yX12_readAll (Cond.code yX12_readAll cX12_readAll 2 (some .boolean) :: rz_TB) rrX12_readAll (rz_Pre G vs M) (rz_Qi G M.2 Z) 0 0 (fun q => rz_b G ≤ q) := by
  obtain ⟨D, tc, ad, b, xs, rfl⟩ := id hG
  refine rz_body (pcs := rpX12_readAll) (by decide) rfl (by rw [hn]; decide) h ?_
  intro p e R s m args below meth c hC
  obtain ⟨hx, hb, hml, hr, hlk, ho, hts, hKn, hRm⟩ := id hC
  obtain ⟨hK, hA, hSt⟩ := id hKn
  have hw : ∀ {i j : Nat} {ws : List Cond} {w : Cond}, rz_WW[i]? = some ws → ws[j]? = some w → w.before args s = true := fun h1 h2 => hts _ (List.mem_cons_of_mem _ (rz_mem h1 h2))
  refine rz_All_c (i := 0) (fun k J hk hJ => rz_aload_n_ok (pc := 0) hx hb dX12_readAll_0 rfl hk) ?_
  refine rz_All_c (i := 1) (fun k J hk hJ => rz_gets_ok (pc := 1) (own := RX12) (ref := "ThreadJudgeModel") (index := 638) hx hb hSt.2.2.1 rfl ho (hw (i := 32) (j := 10) rfl rfl) (fun _ z => z) dX12_readAll_1 hk) ?_
  refine rz_All_c (i := 2) (fun k J hk hJ => rz_aload_n_ok (pc := 4) hx hb dX12_readAll_4 rfl hk) ?_
  refine rz_All_c (i := 3) (fun k J hk hJ => rz_getf_ok (pc := 5) (own := RX12) (ref := "ThreadJudgeModel") (C := RX12) (T := TX12) (N := 257) (ci := 14) (index := 575) (f := 1) (t := 0) (Ts := Cond.code yX12_readAll cX12_readAll 2 (some .boolean) :: rz_TB) hx hb hts rz_in14 ho hK rfl (by decide) rfl (fun _ => rfl) (hw (i := 32) (j := 11) rfl rfl) (fun _ z => z) dX12_readAll_5 hk) ?_
  refine rz_All_c (i := 4) (fun k J hk hJ => rz_iadd_ok (pc := 8) hx hb dX12_readAll_8 hk) ?_
  refine rz_All_c (i := 5) (fun k J hk hJ => rz_putf_ok (pc := 9) (own := RX12) (ref := "ThreadJudgeModel") (C := RX12) (T := TX12) (N := 257) (ci := 14) (index := 578) (f := 3) (t := 0) (Ts := Cond.code yX12_readAll cX12_readAll 2 (some .boolean) :: rz_TB) hx hb hts rz_in14 tyX12 tyX12_ok nmX12 ho hK hA rfl (by decide) rfl (rz_UnI _) rfl (tyX12_ok 3 (by decide)) (hw (i := 32) (j := 12) rfl rfl) (fun _ z => z) dX12_readAll_9 hk) ?_
  refine rz_All_c (i := 6) (fun k J hk hJ => rz_iconst_ok (pc := 12) hx hb dX12_readAll_12 rfl hk) ?_
  refine rz_All_c (i := 7) (fun k J hk hJ => rz_istore_n_ok (pc := 13) hx hb dX12_readAll_13 rfl hk) ?_
  refine rz_All_c (i := 8) (fun k J hk hJ => rz_iload_n_ok (pc := 14) hx hb dX12_readAll_14 rfl hk) ?_
  refine rz_All_c (i := 9) (fun k J hk hJ => rz_gets_ok (pc := 15) (own := RX12) (ref := "ThreadJudgeModel") (index := 638) hx hb hSt.2.2.1 rfl ho (hw (i := 32) (j := 10) rfl rfl) (fun _ z => z) dX12_readAll_15 hk) ?_
  refine rz_All_c (i := 10) (fun k J hk hJ => rz_icmpge_ok (pc := 18) hx hb dX12_readAll_18 rfl hk (hJ 20)) ?_
  refine rz_All_c (i := 11) (fun k J hk hJ => rz_aload_n_ok (pc := 21) hx hb dX12_readAll_21 rfl hk) ?_
  refine rz_All_c (i := 12) (fun k J hk hJ => rz_getf_ok (pc := 22) (own := RX12) (ref := "ThreadJudgeModel") (C := RX12) (T := TX12) (N := 257) (ci := 14) (index := 13) (f := 2) (t := 2) (Ts := Cond.code yX12_readAll cX12_readAll 2 (some .boolean) :: rz_TB) hx hb hts rz_in14 ho hK rfl (by decide) rfl (fun _ => rfl) (hw (i := 32) (j := 13) rfl rfl) (fun _ z => z) dX12_readAll_22 hk) ?_
  refine rz_All_c (i := 13) (fun k J hk hJ => rz_iload_n_ok (pc := 25) hx hb dX12_readAll_25 rfl hk) ?_
  refine rz_All_c (i := 14) (fun k J hk hJ => rz_ldcwS_ok (pc := 26) (i := 10) hx hb (hSt.2.1 ("ThreadJudgeModel", 753, "class Object { method void <init>() { return; } method void wait(); method void notify(); method void notifyAll(); } interface Runnable { abstract method void run(); } class String { } class Class { static method Class named(String); method Object newInstance(); method Method find(String); } class Method { method Object invoke(Object); } class Throwable { } class NullPointer extends Throwable { } class Arithmetic extends Throwable { } class Index extends Throwable { } class Cast extends Throwable { } class Store extends Throwable { } class Size extends Throwable { } class Monitor extends Throwable { } class State extends Throwable { } class NoClass extends Throwable { } class NoMethod extends Throwable { } class Thread implements Runnable { field Runnable target; method void <init>() { return; } method void <init>(Runnable) { load 0; load 1; put Thread.target; return; } method void run() { load 0; get Thread.target; ifnull L; load 0; get Thread.target; virtual void Runnable.run(); L: return; } method void uncaught(Throwable) { return; } method void start(); method void join(); } class Out { static method void print(int); } class Runtime { static method void hook(Thread); } ", 10) (List.mem_of_getElem? (i := 11) rfl)) ho dX12_readAll_26 hk) ?_
  refine rz_All_c (i := 15) (fun k J hk hJ => rz_iload_n_ok (pc := 29) hx hb dX12_readAll_29 rfl hk) ?_
  refine rz_All_c (i := 16) (fun k J hk hJ => rz_callT_ok (pc := 30) (own := RX12) hC rfl (rmJ0_charAt_5068e_f l hG) (rz_cwV 1 hC rz_good (rz_mem (i := 33) (j := 4) rfl rfl) (rz_mem (i := 13) (j := 21) rfl rfl) (rz_mem (i := 13) (j := 22) rfl rfl) (rz_mem (i := 5) (j := 23) rfl rfl) (rz_mem (i := 13) (j := 23) rfl rfl) ⟨rfl, by decide, by decide, by decide +kernel⟩ rfl rfl ⟨by decide, by decide⟩) dX12_readAll_30 hk) ?_
  refine rz_All_c (i := 17) (fun k J hk hJ => rz_iast_ok (pc := 33) hx hb hK hA dX12_readAll_33 hk) ?_
  refine rz_All_c (i := 18) (fun k J hk hJ => rz_iinc_ok (pc := 34) hx hb dX12_readAll_34 (by decide) hk) ?_
  refine rz_All_c (i := 19) (fun k J hk hJ => rz_goto_ok (pc := 37) hx hb dX12_readAll_37 rfl (hJ 8)) ?_
  refine rz_All_c (i := 20) (fun k J hk hJ => rz_iconst_ok (pc := 40) hx hb dX12_readAll_40 rfl hk) ?_
  refine rz_All_c (i := 21) (fun k J hk hJ => rz_istore_n_ok (pc := 41) hx hb dX12_readAll_41 rfl hk) ?_
  refine rz_All_c (i := 22) (fun k J hk hJ => rz_iload_n_ok (pc := 42) hx hb dX12_readAll_42 rfl hk) ?_
  refine rz_All_c (i := 23) (fun k J hk hJ => rz_aload_n_ok (pc := 43) hx hb dX12_readAll_43 rfl hk) ?_
  refine rz_All_c (i := 24) (fun k J hk hJ => rz_getf_ok (pc := 44) (own := RX12) (ref := "ThreadJudgeModel") (C := RX12) (T := TX12) (N := 257) (ci := 14) (index := 575) (f := 1) (t := 0) (Ts := Cond.code yX12_readAll cX12_readAll 2 (some .boolean) :: rz_TB) hx hb hts rz_in14 ho hK rfl (by decide) rfl (fun _ => rfl) (hw (i := 32) (j := 11) rfl rfl) (fun _ z => z) dX12_readAll_44 hk) ?_
  refine rz_All_c (i := 25) (fun k J hk hJ => rz_icmpge_ok (pc := 47) hx hb dX12_readAll_47 rfl hk (hJ 27)) ?_
  refine rz_All_c (i := 26) (fun k J hk hJ => rz_no_ok) ?_
  refine rz_All_c (i := 27) (fun k J hk hJ => rz_aload_n_ok (pc := 72) hx hb dX12_readAll_72 rfl hk) ?_
  refine rz_All_c (i := 28) (fun k J hk hJ => rz_iconst_ok (pc := 73) hx hb dX12_readAll_73 rfl hk) ?_
  refine rz_All_c (i := 29) (fun k J hk hJ => rz_putf_ok (pc := 74) (own := RX12) (ref := "ThreadJudgeModel") (C := RX12) (T := TX12) (N := 257) (ci := 14) (index := 581) (f := 4) (t := 0) (Ts := Cond.code yX12_readAll cX12_readAll 2 (some .boolean) :: rz_TB) hx hb hts rz_in14 tyX12 tyX12_ok nmX12 ho hK hA rfl (by decide) rfl (rz_UnI _) rfl (tyX12_ok 4 (by decide)) (hw (i := 32) (j := 15) rfl rfl) (fun _ z => z) dX12_readAll_74 hk) ?_
  refine rz_All_c (i := 30) (fun k J hk hJ => rz_aload_n_ok (pc := 77) hx hb dX12_readAll_77 rfl hk) ?_
  refine rz_All_c (i := 31) (fun k J hk hJ => rz_iconst_ok (pc := 78) hx hb dX12_readAll_78 rfl hk) ?_
  refine rz_All_c (i := 32) (fun k J hk hJ => rz_putf_ok (pc := 79) (own := RX12) (ref := "ThreadJudgeModel") (C := RX12) (T := TX12) (N := 257) (ci := 14) (index := 608) (f := 9) (t := 0) (Ts := Cond.code yX12_readAll cX12_readAll 2 (some .boolean) :: rz_TB) hx hb hts rz_in14 tyX12 tyX12_ok nmX12 ho hK hA rfl (by decide) rfl (rz_UnI _) rfl (tyX12_ok 9 (by decide)) (hw (i := 32) (j := 16) rfl rfl) (fun _ z => z) dX12_readAll_79 hk) ?_
  refine rz_All_c (i := 33) (fun k J hk hJ => rz_aload_n_ok (pc := 82) hx hb dX12_readAll_82 rfl hk) ?_
  refine rz_All_c (i := 34) (fun k J hk hJ => rz_iconst_ok (pc := 83) hx hb dX12_readAll_83 rfl hk) ?_
  refine rz_All_c (i := 35) (fun k J hk hJ => rz_putf_ok (pc := 84) (own := RX12) (ref := "ThreadJudgeModel") (C := RX12) (T := TX12) (N := 257) (ci := 14) (index := 684) (f := 13) (t := 0) (Ts := Cond.code yX12_readAll cX12_readAll 2 (some .boolean) :: rz_TB) hx hb hts rz_in14 tyX12 tyX12_ok nmX12 ho hK hA rfl (by decide) rfl (rz_UnI _) rfl (tyX12_ok 13 (by decide)) (hw (i := 32) (j := 17) rfl rfl) (fun _ z => z) dX12_readAll_84 hk) ?_
  refine rz_All_c (i := 36) (fun k J hk hJ => rz_aload_n_ok (pc := 87) hx hb dX12_readAll_87 rfl hk) ?_
  refine rz_All_c (i := 37) (fun k J hk hJ => rz_iconst_ok (pc := 88) hx hb dX12_readAll_88 rfl hk) ?_
  refine rz_All_c (i := 38) (fun k J hk hJ => rz_putf_ok (pc := 89) (own := RX12) (ref := "ThreadJudgeModel") (C := RX12) (T := TX12) (N := 257) (ci := 14) (index := 690) (f := 26) (t := 0) (Ts := Cond.code yX12_readAll cX12_readAll 2 (some .boolean) :: rz_TB) hx hb hts rz_in14 tyX12 tyX12_ok nmX12 ho hK hA rfl (by decide) rfl (rz_UnI _) rfl (tyX12_ok 26 (by decide)) (hw (i := 32) (j := 18) rfl rfl) (fun _ z => z) dX12_readAll_89 hk) ?_
  refine rz_All_c (i := 39) (fun k J hk hJ => rz_aload_n_ok (pc := 92) hx hb dX12_readAll_92 rfl hk) ?_
  refine rz_All_c (i := 40) (fun k J hk hJ => rz_iconst_ok (pc := 93) hx hb dX12_readAll_93 rfl hk) ?_
  refine rz_All_c (i := 41) (fun k J hk hJ => rz_putf_ok (pc := 94) (own := RX12) (ref := "ThreadJudgeModel") (C := RX12) (T := TX12) (N := 257) (ci := 14) (index := 693) (f := 31) (t := 0) (Ts := Cond.code yX12_readAll cX12_readAll 2 (some .boolean) :: rz_TB) hx hb hts rz_in14 tyX12 tyX12_ok nmX12 ho hK hA rfl (by decide) rfl (rz_UnI _) rfl (tyX12_ok 31 (by decide)) (hw (i := 32) (j := 19) rfl rfl) (fun _ z => z) dX12_readAll_94 hk) ?_
  refine rz_All_c (i := 42) (fun k J hk hJ => rz_aload_n_ok (pc := 97) hx hb dX12_readAll_97 rfl hk) ?_
  refine rz_All_c (i := 43) (fun k J hk hJ => rz_iconst_ok (pc := 98) hx hb dX12_readAll_98 rfl hk) ?_
  refine rz_All_c (i := 44) (fun k J hk hJ => rz_putf_ok (pc := 99) (own := RX12) (ref := "ThreadJudgeModel") (C := RX12) (T := TX12) (N := 257) (ci := 14) (index := 706) (f := 43) (t := 0) (Ts := Cond.code yX12_readAll cX12_readAll 2 (some .boolean) :: rz_TB) hx hb hts rz_in14 tyX12 tyX12_ok nmX12 ho hK hA rfl (by decide) rfl (rz_UnI _) rfl (tyX12_ok 43 (by decide)) (hw (i := 32) (j := 20) rfl rfl) (fun _ z => z) dX12_readAll_99 hk) ?_
  refine rz_All_c (i := 45) (fun k J hk hJ => rz_aload_n_ok (pc := 102) hx hb dX12_readAll_102 rfl hk) ?_
  refine rz_All_c (i := 46) (fun k J hk hJ => rz_iconst_ok (pc := 103) hx hb dX12_readAll_103 rfl hk) ?_
  refine rz_All_c (i := 47) (fun k J hk hJ => rz_putf_ok (pc := 104) (own := RX12) (ref := "ThreadJudgeModel") (C := RX12) (T := TX12) (N := 257) (ci := 14) (index := 718) (f := 54) (t := 0) (Ts := Cond.code yX12_readAll cX12_readAll 2 (some .boolean) :: rz_TB) hx hb hts rz_in14 tyX12 tyX12_ok nmX12 ho hK hA rfl (by decide) rfl (rz_UnI _) rfl (tyX12_ok 54 (by decide)) (hw (i := 32) (j := 21) rfl rfl) (fun _ z => z) dX12_readAll_104 hk) ?_
  refine rz_All_c (i := 48) (fun k J hk hJ => rz_aload_n_ok (pc := 107) hx hb dX12_readAll_107 rfl hk) ?_
  refine rz_All_c (i := 49) (fun k J hk hJ => rz_iconst_ok (pc := 108) hx hb dX12_readAll_108 rfl hk) ?_
  refine rz_All_c (i := 50) (fun k J hk hJ => rz_putf_ok (pc := 109) (own := RX12) (ref := "ThreadJudgeModel") (C := RX12) (T := TX12) (N := 257) (ci := 14) (index := 731) (f := 62) (t := 0) (Ts := Cond.code yX12_readAll cX12_readAll 2 (some .boolean) :: rz_TB) hx hb hts rz_in14 tyX12 tyX12_ok nmX12 ho hK hA rfl (by decide) rfl (rz_UnI _) rfl (tyX12_ok 62 (by decide)) (hw (i := 32) (j := 22) rfl rfl) (fun _ z => z) dX12_readAll_109 hk) ?_
  refine rz_All_c (i := 51) (fun k J hk hJ => rz_aload_n_ok (pc := 112) hx hb dX12_readAll_112 rfl hk) ?_
  refine rz_All_c (i := 52) (fun k J hk hJ => rz_iconst_ok (pc := 113) hx hb dX12_readAll_113 rfl hk) ?_
  refine rz_All_c (i := 53) (fun k J hk hJ => rz_putf_ok (pc := 114) (own := RX12) (ref := "ThreadJudgeModel") (C := RX12) (T := TX12) (N := 257) (ci := 14) (index := 721) (f := 65) (t := 0) (Ts := Cond.code yX12_readAll cX12_readAll 2 (some .boolean) :: rz_TB) hx hb hts rz_in14 tyX12 tyX12_ok nmX12 ho hK hA rfl (by decide) rfl (rz_UnI _) rfl (tyX12_ok 65 (by decide)) (hw (i := 32) (j := 23) rfl rfl) (fun _ z => z) dX12_readAll_114 hk) ?_
  refine rz_All_c (i := 54) (fun k J hk hJ => rz_aload_n_ok (pc := 117) hx hb dX12_readAll_117 rfl hk) ?_
  refine rz_All_c (i := 55) (fun k J hk hJ => rz_iconst_ok (pc := 118) hx hb dX12_readAll_118 rfl hk) ?_
  refine rz_All_c (i := 56) (fun k J hk hJ => rz_putf_ok (pc := 119) (own := RX12) (ref := "ThreadJudgeModel") (C := RX12) (T := TX12) (N := 257) (ci := 14) (index := 724) (f := 12) (t := 0) (Ts := Cond.code yX12_readAll cX12_readAll 2 (some .boolean) :: rz_TB) hx hb hts rz_in14 tyX12 tyX12_ok nmX12 ho hK hA rfl (by decide) rfl (rz_UnZ _) rfl (tyX12_ok 12 (by decide)) (hw (i := 33) (j := 0) rfl rfl) (fun _ z => z) dX12_readAll_119 hk) ?_
  refine rz_All_c (i := 57) (fun k J hk hJ => rz_aload_n_ok (pc := 122) hx hb dX12_readAll_122 rfl hk) ?_
  refine rz_All_c (i := 58) (fun k J hk hJ => rz_iconst_ok (pc := 123) hx hb dX12_readAll_123 rfl hk) ?_
  refine rz_All_c (i := 59) (fun k J hk hJ => rz_putf_ok (pc := 124) (own := RX12) (ref := "ThreadJudgeModel") (C := RX12) (T := TX12) (N := 257) (ci := 14) (index := 635) (f := 10) (t := 0) (Ts := Cond.code yX12_readAll cX12_readAll 2 (some .boolean) :: rz_TB) hx hb hts rz_in14 tyX12 tyX12_ok nmX12 ho hK hA rfl (by decide) rfl (rz_UnI _) rfl (tyX12_ok 10 (by decide)) (hw (i := 32) (j := 4) rfl rfl) (fun _ z => z) dX12_readAll_124 hk) ?_
  refine rz_All_c (i := 60) (fun k J hk hJ => rz_aload_n_ok (pc := 127) hx hb dX12_readAll_127 rfl hk) ?_
  refine rz_All_c (i := 61) (fun k J hk hJ => rz_iconst_ok (pc := 128) hx hb dX12_readAll_128 rfl hk) ?_
  refine rz_All_c (i := 62) (fun k J hk hJ => rz_putf_ok (pc := 129) (own := RX12) (ref := "ThreadJudgeModel") (C := RX12) (T := TX12) (N := 257) (ci := 14) (index := 16) (f := 11) (t := 0) (Ts := Cond.code yX12_readAll cX12_readAll 2 (some .boolean) :: rz_TB) hx hb hts rz_in14 tyX12 tyX12_ok nmX12 ho hK hA rfl (by decide) rfl (rz_UnI _) rfl (tyX12_ok 11 (by decide)) (hw (i := 33) (j := 1) rfl rfl) (fun _ z => z) dX12_readAll_129 hk) ?_
  refine rz_All_c (i := 63) (fun k J hk hJ => rz_aload_n_ok (pc := 132) hx hb dX12_readAll_132 rfl hk) ?_
  refine rz_All_c (i := 64) (fun k J hk hJ => rz_callVv_ok (pc := 133) (own := RX12) (C := RX12) (T0 := TX12) (N0 := 257) hC rfl (rmX12_next l hG) (rz_cwV 0 hC rz_good (rz_mem (i := 34) (j := 21) rfl rfl) (rz_mem (i := 34) (j := 22) rfl rfl) (rz_mem (i := 34) (j := 23) rfl rfl) (rz_mem (i := 32) (j := 8) rfl rfl) (rz_mem (i := 35) (j := 0) rfl rfl) ⟨rfl, by decide, by decide, by decide +kernel⟩ rfl rfl ⟨by decide, by decide⟩) rfl dX12_readAll_133 hk) ?_
  refine rz_All_c (i := 65) (fun k J hk hJ => rz_aload_n_ok (pc := 136) hx hb dX12_readAll_136 rfl hk) ?_
  refine rz_All_c (i := 66) (fun k J hk hJ => rz_getf_ok (pc := 137) (own := RX12) (ref := "ThreadJudgeModel") (C := RX12) (T := TX12) (N := 257) (ci := 14) (index := 588) (f := 5) (t := 0) (Ts := Cond.code yX12_readAll cX12_readAll 2 (some .boolean) :: rz_TB) hx hb hts rz_in14 ho hK rfl (by decide) rfl (fun _ => rfl) (hw (i := 33) (j := 2) rfl rfl) (fun _ z => z) dX12_readAll_137 hk) ?_
  refine rz_All_c (i := 67) (fun k J hk hJ => rz_ifeq_ok (pc := 140) hx hb dX12_readAll_140 rfl hk (hJ 83)) ?_
  refine rz_All_c (i := 68) (fun k J hk hJ => rz_aload_n_ok (pc := 143) hx hb dX12_readAll_143 rfl hk) ?_
  refine rz_All_c (i := 69) (fun k J hk hJ => rz_aload_n_ok (pc := 144) hx hb dX12_readAll_144 rfl hk) ?_
  refine rz_All_c (i := 70) (fun k J hk hJ => rz_getf_ok (pc := 145) (own := RX12) (ref := "ThreadJudgeModel") (C := RX12) (T := TX12) (N := 257) (ci := 14) (index := 724) (f := 12) (t := 0) (Ts := Cond.code yX12_readAll cX12_readAll 2 (some .boolean) :: rz_TB) hx hb hts rz_in14 ho hK rfl (by decide) rfl (fun _ => rfl) (hw (i := 33) (j := 0) rfl rfl) (fun _ z => z) dX12_readAll_145 hk) ?_
  refine rz_All_c (i := 71) (fun k J hk hJ => rz_ifne_ok (pc := 148) hx hb dX12_readAll_148 rfl hk (hJ 76)) ?_
  refine rz_All_c (i := 72) (fun k J hk hJ => rz_aload_n_ok (pc := 151) hx hb dX12_readAll_151 rfl hk) ?_
  refine rz_All_c (i := 73) (fun k J hk hJ => rz_getf_ok (pc := 152) (own := RX12) (ref := "ThreadJudgeModel") (C := RX12) (T := TX12) (N := 257) (ci := 14) (index := 591) (f := 6) (t := 0) (Ts := Cond.code yX12_readAll cX12_readAll 2 (some .boolean) :: rz_TB) hx hb hts rz_in14 ho hK rfl (by decide) rfl (fun _ => rfl) (hw (i := 33) (j := 3) rfl rfl) (fun _ z => z) dX12_readAll_152 hk) ?_
  refine rz_All_c (i := 74) (fun k J hk hJ => rz_gets_ok (pc := 155) (own := RX12) (ref := "ThreadJudgeModel") (index := 638) hx hb hSt.2.2.1 rfl ho (hw (i := 32) (j := 10) rfl rfl) (fun _ z => z) dX12_readAll_155 hk) ?_
  refine rz_All_c (i := 75) (fun k J hk hJ => rz_icmplt_ok (pc := 158) hx hb dX12_readAll_158 rfl hk (hJ 77)) ?_
  refine rz_All_c (i := 76) (fun k J hk hJ => rz_no_ok) ?_
  refine rz_All_c (i := 77) (fun k J hk hJ => rz_iconst_ok (pc := 165) hx hb dX12_readAll_165 rfl hk) ?_
  refine rz_All_c (i := 78) (fun k J hk hJ => rz_putf_ok (pc := 166) (own := RX12) (ref := "ThreadJudgeModel") (C := RX12) (T := TX12) (N := 257) (ci := 14) (index := 724) (f := 12) (t := 0) (Ts := Cond.code yX12_readAll cX12_readAll 2 (some .boolean) :: rz_TB) hx hb hts rz_in14 tyX12 tyX12_ok nmX12 ho hK hA rfl (by decide) rfl (rz_UnZ _) rfl (tyX12_ok 12 (by decide)) (hw (i := 33) (j := 0) rfl rfl) (fun _ z => z) dX12_readAll_166 hk) ?_
  refine rz_All_c (i := 79) (fun k J hk hJ => rz_aload_n_ok (pc := 169) hx hb dX12_readAll_169 rfl hk) ?_
  refine rz_All_c (i := 80) (fun k J hk hJ => rz_callV_ok (pc := 170) (own := RX12) (C := RX12) (T0 := TX12) (N0 := 257) hC rfl (rmX12_readClass l hG) (rz_cwV 0 hC rz_good (rz_mem (i := 36) (j := 6) rfl rfl) (rz_mem (i := 36) (j := 7) rfl rfl) (rz_mem (i := 36) (j := 8) rfl rfl) (rz_mem (i := 32) (j := 8) rfl rfl) (rz_mem (i := 36) (j := 9) rfl rfl) ⟨rfl, by decide, by decide, by decide +kernel⟩ rfl rfl ⟨by decide, by decide⟩) rfl dX12_readAll_170 hk) ?_
  refine rz_All_c (i := 81) (fun k J hk hJ => rz_ifne_ok (pc := 173) hx hb dX12_readAll_173 rfl hk (hJ 65)) ?_
  refine rz_All_c (i := 82) (fun k J hk hJ => rz_no_ok) ?_
  refine rz_All_c (i := 83) (fun k J hk hJ => rz_iconst_ok (pc := 178) hx hb dX12_readAll_178 rfl hk) ?_
  refine rz_All_c (i := 84) (fun k J hk hJ => rz_zret_ok (pc := 179) hC dX12_readAll_179) ?_
  exact trivial
theorem dX12_load_0 : decode cX12_load 0 = .ok (.aload_n 0, 1) := by decide +kernel
theorem dX12_load_1 : decode cX12_load 1 = .ok (.iconst 0, 1) := by decide +kernel
theorem dX12_load_2 : decode cX12_load 2 = .ok (.putfield 1001, 3) := by decide +kernel
theorem dX12_load_5 : decode cX12_load 5 = .ok (.aload_n 0, 1) := by decide +kernel
theorem dX12_load_6 : decode cX12_load 6 = .ok (.iconst 0, 1) := by decide +kernel
theorem dX12_load_7 : decode cX12_load 7 = .ok (.putfield 1004, 3) := by decide +kernel
theorem dX12_load_10 : decode cX12_load 10 = .ok (.aload_n 0, 1) := by decide +kernel
theorem dX12_load_11 : decode cX12_load 11 = .ok (.iconst 0, 1) := by decide +kernel
theorem dX12_load_12 : decode cX12_load 12 = .ok (.putfield 1007, 3) := by decide +kernel
theorem dX12_load_15 : decode cX12_load 15 = .ok (.aload_n 0, 1) := by decide +kernel
theorem dX12_load_16 : decode cX12_load 16 = .ok (.iconst (-1), 1) := by decide +kernel
theorem dX12_load_17 : decode cX12_load 17 = .ok (.putfield 387, 3) := by decide +kernel
theorem dX12_load_20 : decode cX12_load 20 = .ok (.aload_n 0, 1) := by decide +kernel
theorem dX12_load_21 : decode cX12_load 21 = .ok (.invokevirtual 1010, 3) := by decide +kernel
theorem dX12_load_24 : decode cX12_load 24 = .ok (.ifCond .eq 24, 3) := by decide +kernel
theorem dX12_load_27 : decode cX12_load 27 = .ok (.aload_n 0, 1) := by decide +kernel
theorem dX12_load_28 : decode cX12_load 28 = .ok (.invokevirtual 1013, 3) := by decide +kernel
theorem dX12_load_31 : decode cX12_load 31 = .ok (.ifCond .eq 17, 3) := by decide +kernel
theorem dX12_load_48 : decode cX12_load 48 = .ok (.aload_n 0, 1) := by decide +kernel
theorem dX12_load_49 : decode cX12_load 49 = .ok (.getfield 635, 3) := by decide +kernel
theorem dX12_load_52 : decode cX12_load 52 = .ok (.ireturn, 1) := by decide +kernel
def rpX12_load : List Nat := [0, 1, 2, 5, 6, 7, 10, 11, 12, 15, 16, 17, 20, 21, 24, 27, 28, 31, 34, 48, 49, 52]
noncomputable def rcX12_load : List rz_B := [rz_aload 0, rz_cst 0, rz_putf (Nat.add (Nat.mul 256 14) 1) 99 rz_unZ, rz_aload 0, rz_cst 0, rz_putf (Nat.add (Nat.mul 256 14) 1) 103 rz_unZ, rz_aload 0, rz_cst 0, rz_putf (Nat.add (Nat.mul 256 14) 1) 189 rz_unZ, rz_aload 0, rz_cst 4294967295, rz_putf (Nat.add (Nat.mul 256 14) 1) 173 rz_unI, rz_aload 0, rz_callV 0 (Nat.add (Nat.mul 256 14) 1) rgX12_readAll, rz_ifeq 19, rz_aload 0, rz_callV 0 (Nat.add (Nat.mul 256 14) 1) rgX12_link, rz_ifeq 19, rz_no, rz_aload 0, rz_getf (Nat.add (Nat.mul 256 14) 1) 10 rz_i, rz_iret]
noncomputable def rgX12_load : rz_L → rz_M → rz_Z → Bool := rz_go rcX12_load 1 1000000
def rrX12_load : Room := { frames := 15, cells := 0, slots := 0, locals := 375 }
theorem rmX12_load (l : Launch) {G : rz_G} (hG : rz_Gd G) (vs : rz_L) (M : rz_M) (Z : rz_Z) (hn : vs.length = 1) (h : rgX12_load vs M Z = true) : Met l yX12_load (Cond.code yX12_load cX12_load 1 (some .int) :: rz_TB) rrX12_load (rz_Pre G vs M) (rz_Qi G M.2 Z) 0 0 (fun q => rz_b G ≤ q) := by
  obtain ⟨D, tc, ad, b, xs, rfl⟩ := id hG
  refine rz_body (pcs := rpX12_load) (by decide) rfl (by rw [hn]; decide) h ?_
  intro p e R s m args below meth c hC
  obtain ⟨hx, hb, hml, hr, hlk, ho, hts, hKn, hRm⟩ := id hC
  obtain ⟨hK, hA, hSt⟩ := id hKn
  have hw : ∀ {i j : Nat} {ws : List Cond} {w : Cond}, rz_WW[i]? = some ws → ws[j]? = some w → w.before args s = true := fun h1 h2 => hts _ (List.mem_cons_of_mem _ (rz_mem h1 h2))
  refine rz_All_c (i := 0) (fun k J hk hJ => rz_aload_n_ok (pc := 0) hx hb dX12_load_0 rfl hk) ?_
  refine rz_All_c (i := 1) (fun k J hk hJ => rz_iconst_ok (pc := 1) hx hb dX12_load_1 rfl hk) ?_
  refine rz_All_c (i := 2) (fun k J hk hJ => rz_putf_ok (pc := 2) (own := RX12) (ref := "ThreadJudgeModel") (C := RX12) (T := TX12) (N := 257) (ci := 14) (index := 1001) (f := 99) (t := 0) (Ts := Cond.code yX12_load cX12_load 1 (some .int) :: rz_TB) hx hb hts rz_in14 tyX12 tyX12_ok nmX12 ho hK hA rfl (by decide) rfl (rz_UnZ _) rfl (tyX12_ok 99 (by decide)) (hw (i := 32) (j := 0) rfl rfl) (fun _ z => z) dX12_load_2 hk) ?_
  refine rz_All_c (i := 3) (fun k J hk hJ => rz_aload_n_ok (pc := 5) hx hb dX12_load_5 rfl hk) ?_
  refine rz_All_c (i := 4) (fun k J hk hJ => rz_iconst_ok (pc := 6) hx hb dX12_load_6 rfl hk) ?_
  refine rz_All_c (i := 5) (fun k J hk hJ => rz_putf_ok (pc := 7) (own := RX12) (ref := "ThreadJudgeModel") (C := RX12) (T := TX12) (N := 257) (ci := 14) (index := 1004) (f := 103) (t := 0) (Ts := Cond.code yX12_load cX12_load 1 (some .int) :: rz_TB) hx hb hts rz_in14 tyX12 tyX12_ok nmX12 ho hK hA rfl (by decide) rfl (rz_UnZ _) rfl (tyX12_ok 103 (by decide)) (hw (i := 32) (j := 1) rfl rfl) (fun _ z => z) dX12_load_7 hk) ?_
  refine rz_All_c (i := 6) (fun k J hk hJ => rz_aload_n_ok (pc := 10) hx hb dX12_load_10 rfl hk) ?_
  refine rz_All_c (i := 7) (fun k J hk hJ => rz_iconst_ok (pc := 11) hx hb dX12_load_11 rfl hk) ?_
  refine rz_All_c (i := 8) (fun k J hk hJ => rz_putf_ok (pc := 12) (own := RX12) (ref := "ThreadJudgeModel") (C := RX12) (T := TX12) (N := 257) (ci := 14) (index := 1007) (f := 189) (t := 0) (Ts := Cond.code yX12_load cX12_load 1 (some .int) :: rz_TB) hx hb hts rz_in14 tyX12 tyX12_ok nmX12 ho hK hA rfl (by decide) rfl (rz_UnZ _) rfl (tyX12_ok 189 (by decide)) (hw (i := 32) (j := 2) rfl rfl) (fun _ z => z) dX12_load_12 hk) ?_
  refine rz_All_c (i := 9) (fun k J hk hJ => rz_aload_n_ok (pc := 15) hx hb dX12_load_15 rfl hk) ?_
  refine rz_All_c (i := 10) (fun k J hk hJ => rz_iconst_ok (pc := 16) hx hb dX12_load_16 rfl hk) ?_
  refine rz_All_c (i := 11) (fun k J hk hJ => rz_putf_ok (pc := 17) (own := RX12) (ref := "ThreadJudgeModel") (C := RX12) (T := TX12) (N := 257) (ci := 14) (index := 387) (f := 173) (t := 0) (Ts := Cond.code yX12_load cX12_load 1 (some .int) :: rz_TB) hx hb hts rz_in14 tyX12 tyX12_ok nmX12 ho hK hA rfl (by decide) rfl (rz_UnI _) rfl (tyX12_ok 173 (by decide)) (hw (i := 32) (j := 3) rfl rfl) (fun _ z => z) dX12_load_17 hk) ?_
  refine rz_All_c (i := 12) (fun k J hk hJ => rz_aload_n_ok (pc := 20) hx hb dX12_load_20 rfl hk) ?_
  refine rz_All_c (i := 13) (fun k J hk hJ => rz_callV_ok (pc := 21) (own := RX12) (C := RX12) (T0 := TX12) (N0 := 257) hC rfl (rmX12_readAll l hG) (rz_cwV 0 hC rz_good (rz_mem (i := 32) (j := 5) rfl rfl) (rz_mem (i := 32) (j := 6) rfl rfl) (rz_mem (i := 32) (j := 7) rfl rfl) (rz_mem (i := 32) (j := 8) rfl rfl) (rz_mem (i := 32) (j := 9) rfl rfl) ⟨rfl, by decide, by decide, by decide +kernel⟩ rfl rfl ⟨by decide, by decide⟩) rfl dX12_load_21 hk) ?_
  refine rz_All_c (i := 14) (fun k J hk hJ => rz_ifeq_ok (pc := 24) hx hb dX12_load_24 rfl hk (hJ 19)) ?_
  refine rz_All_c (i := 15) (fun k J hk hJ => rz_aload_n_ok (pc := 27) hx hb dX12_load_27 rfl hk) ?_
  refine rz_All_c (i := 16) (fun k J hk hJ => rz_callV_ok (pc := 28) (own := RX12) (C := RX12) (T0 := TX12) (N0 := 257) hC rfl (rmX12_link l hG) (rz_cwV 0 hC rz_good (rz_mem (i := 42) (j := 9) rfl rfl) (rz_mem (i := 42) (j := 10) rfl rfl) (rz_mem (i := 42) (j := 11) rfl rfl) (rz_mem (i := 32) (j := 8) rfl rfl) (rz_mem (i := 42) (j := 12) rfl rfl) ⟨rfl, by decide, by decide, by decide +kernel⟩ rfl rfl ⟨by decide, by decide⟩) rfl dX12_load_28 hk) ?_
  refine rz_All_c (i := 17) (fun k J hk hJ => rz_ifeq_ok (pc := 31) hx hb dX12_load_31 rfl hk (hJ 19)) ?_
  refine rz_All_c (i := 18) (fun k J hk hJ => rz_no_ok) ?_
  refine rz_All_c (i := 19) (fun k J hk hJ => rz_aload_n_ok (pc := 48) hx hb dX12_load_48 rfl hk) ?_
  refine rz_All_c (i := 20) (fun k J hk hJ => rz_getf_ok (pc := 49) (own := RX12) (ref := "ThreadJudgeModel") (C := RX12) (T := TX12) (N := 257) (ci := 14) (index := 635) (f := 10) (t := 0) (Ts := Cond.code yX12_load cX12_load 1 (some .int) :: rz_TB) hx hb hts rz_in14 ho hK rfl (by decide) rfl (fun _ => rfl) (hw (i := 32) (j := 4) rfl rfl) (fun _ z => z) dX12_load_49 hk) ?_
  refine rz_All_c (i := 21) (fun k J hk hJ => rz_iret_ok (pc := 52) hC dX12_load_52) ?_
  exact trivial
theorem dX11_end_0 : decode cX11_end 0 = .ok (.iload_n 1, 1) := by decide +kernel
theorem dX11_end_1 : decode cX11_end 1 = .ok (.ifCond .lt 18, 3) := by decide +kernel
theorem dX11_end_4 : decode cX11_end 4 = .ok (.iload_n 1, 1) := by decide +kernel
theorem dX11_end_5 : decode cX11_end 5 = .ok (.bipush 20, 2) := by decide +kernel
theorem dX11_end_7 : decode cX11_end 7 = .ok (.if_icmp .gt 12, 3) := by decide +kernel
theorem dX11_end_10 : decode cX11_end 10 = .ok (.aload_n 0, 1) := by decide +kernel
theorem dX11_end_11 : decode cX11_end 11 = .ok (.getfield 112, 3) := by decide +kernel
theorem dX11_end_14 : decode cX11_end 14 = .ok (.bipush 20, 2) := by decide +kernel
theorem dX11_end_16 : decode cX11_end 16 = .ok (.if_icmp .ge 5, 3) := by decide +kernel
theorem dX11_end_19 : decode cX11_end 19 = .ok (.iconst (-1), 1) := by decide +kernel
theorem dX11_end_20 : decode cX11_end 20 = .ok (.ireturn, 1) := by decide +kernel
def rpX11_end : List Nat := [0, 1, 4, 5, 7, 10, 11, 14, 16, 19, 20, 21]
noncomputable def rcX11_end : List rz_B := [rz_iload 1, rz_ifltK 9, rz_iload 1, rz_cst 20, rz_icmpgtK 9, rz_aload 0, rz_getf (Nat.add (Nat.mul 256 13) 1) 1 rz_i, rz_cst 20, rz_icmpge 11, rz_cst 4294967295, rz_iret, rz_no]
noncomputable def rgX11_end : rz_L → rz_M → rz_Z → Bool := rz_go rcX11_end 2 1000000
def rrX11_end : Room := { frames := 0, cells := 0, slots := 0, locals := 0 }
theorem rmX11_end (l : Launch) {G : rz_G} (hG : rz_Gd G) (vs : rz_L) (M : rz_M) (Z : rz_Z) (hn : vs.length = 2) (h : rgX11_end vs M Z = true) : Met l yX11_end (Cond.code yX11_end cX11_end 2 (some .int) :: rz_TB) rrX11_end (rz_Pre G vs M) (rz_Qi G M.2 Z) 0 0 (fun q => rz_b G ≤ q) := by
  obtain ⟨D, tc, ad, b, xs, rfl⟩ := id hG
  refine rz_body (pcs := rpX11_end) (by decide) rfl (by rw [hn]; decide) h ?_
  intro p e R s m args below meth c hC
  obtain ⟨hx, hb, hml, hr, hlk, ho, hts, hKn, hRm⟩ := id hC
  obtain ⟨hK, hA, hSt⟩ := id hKn
  have hw : ∀ {i j : Nat} {ws : List Cond} {w : Cond}, rz_WW[i]? = some ws → ws[j]? = some w → w.before args s = true := fun h1 h2 => hts _ (List.mem_cons_of_mem _ (rz_mem h1 h2))
  refine rz_All_c (i := 0) (fun k J hk hJ => rz_iload_n_ok (pc := 0) hx hb dX11_end_0 rfl hk) ?_
  refine rz_All_c (i := 1) (fun k J hk hJ => rz_ifltK_ok (pc := 1) hx hb hSt.2.2.2.2.2.2.2 dX11_end_1 rfl hk (hJ 9)) ?_
  refine rz_All_c (i := 2) (fun k J hk hJ => rz_iload_n_ok (pc := 4) hx hb dX11_end_4 rfl hk) ?_
  refine rz_All_c (i := 3) (fun k J hk hJ => rz_bipush_ok (pc := 5) hx hb dX11_end_5 (by decide) hk) ?_
  refine rz_All_c (i := 4) (fun k J hk hJ => rz_icmpgtK_ok (pc := 7) hx hb hSt.2.2.2.2.2.2.2 dX11_end_7 rfl hk (hJ 9)) ?_
  refine rz_All_c (i := 5) (fun k J hk hJ => rz_aload_n_ok (pc := 10) hx hb dX11_end_10 rfl hk) ?_
  refine rz_All_c (i := 6) (fun k J hk hJ => rz_getf_ok (pc := 11) (own := RX11) (ref := "ThreadJudge") (C := RX11) (T := TX11) (N := 16) (ci := 13) (index := 112) (f := 1) (t := 0) (Ts := Cond.code yX11_end cX11_end 2 (some .int) :: rz_TB) hx hb hts rz_in13 ho hK rfl (by decide) rfl (fun _ => rfl) (hw (i := 0) (j := 11) rfl rfl) (fun _ z => z) dX11_end_11 hk) ?_
  refine rz_All_c (i := 7) (fun k J hk hJ => rz_bipush_ok (pc := 14) hx hb dX11_end_14 (by decide) hk) ?_
  refine rz_All_c (i := 8) (fun k J hk hJ => rz_icmpge_ok (pc := 16) hx hb dX11_end_16 rfl hk (hJ 11)) ?_
  refine rz_All_c (i := 9) (fun k J hk hJ => rz_iconst_ok (pc := 19) hx hb dX11_end_19 rfl hk) ?_
  refine rz_All_c (i := 10) (fun k J hk hJ => rz_iret_ok (pc := 20) hC dX11_end_20) ?_
  refine rz_All_c (i := 11) (fun k J hk hJ => rz_no_ok) ?_
  exact trivial
theorem dX12_end_0 : decode cX12_end 0 = .ok (.iload_n 1, 1) := by decide +kernel
theorem dX12_end_1 : decode cX12_end 1 = .ok (.ifCond .lt 18, 3) := by decide +kernel
theorem dX12_end_4 : decode cX12_end 4 = .ok (.iload_n 1, 1) := by decide +kernel
theorem dX12_end_5 : decode cX12_end 5 = .ok (.bipush 20, 2) := by decide +kernel
theorem dX12_end_7 : decode cX12_end 7 = .ok (.if_icmp .gt 12, 3) := by decide +kernel
theorem dX12_end_10 : decode cX12_end 10 = .ok (.aload_n 0, 1) := by decide +kernel
theorem dX12_end_11 : decode cX12_end 11 = .ok (.getfield 575, 3) := by decide +kernel
theorem dX12_end_14 : decode cX12_end 14 = .ok (.bipush 20, 2) := by decide +kernel
theorem dX12_end_16 : decode cX12_end 16 = .ok (.if_icmp .ge 5, 3) := by decide +kernel
theorem dX12_end_19 : decode cX12_end 19 = .ok (.iconst (-1), 1) := by decide +kernel
theorem dX12_end_20 : decode cX12_end 20 = .ok (.ireturn, 1) := by decide +kernel
def rpX12_end : List Nat := [0, 1, 4, 5, 7, 10, 11, 14, 16, 19, 20, 21]
noncomputable def rcX12_end : List rz_B := [rz_iload 1, rz_ifltK 9, rz_iload 1, rz_cst 20, rz_icmpgtK 9, rz_aload 0, rz_getf (Nat.add (Nat.mul 256 14) 1) 1 rz_i, rz_cst 20, rz_icmpge 11, rz_cst 4294967295, rz_iret, rz_no]
noncomputable def rgX12_end : rz_L → rz_M → rz_Z → Bool := rz_go rcX12_end 2 1000000
def rrX12_end : Room := { frames := 0, cells := 0, slots := 0, locals := 0 }
theorem rmX12_end (l : Launch) {G : rz_G} (hG : rz_Gd G) (vs : rz_L) (M : rz_M) (Z : rz_Z) (hn : vs.length = 2) (h : rgX12_end vs M Z = true) : Met l yX12_end (Cond.code yX12_end cX12_end 2 (some .int) :: rz_TB) rrX12_end (rz_Pre G vs M) (rz_Qi G M.2 Z) 0 0 (fun q => rz_b G ≤ q) := by
  obtain ⟨D, tc, ad, b, xs, rfl⟩ := id hG
  refine rz_body (pcs := rpX12_end) (by decide) rfl (by rw [hn]; decide) h ?_
  intro p e R s m args below meth c hC
  obtain ⟨hx, hb, hml, hr, hlk, ho, hts, hKn, hRm⟩ := id hC
  obtain ⟨hK, hA, hSt⟩ := id hKn
  have hw : ∀ {i j : Nat} {ws : List Cond} {w : Cond}, rz_WW[i]? = some ws → ws[j]? = some w → w.before args s = true := fun h1 h2 => hts _ (List.mem_cons_of_mem _ (rz_mem h1 h2))
  refine rz_All_c (i := 0) (fun k J hk hJ => rz_iload_n_ok (pc := 0) hx hb dX12_end_0 rfl hk) ?_
  refine rz_All_c (i := 1) (fun k J hk hJ => rz_ifltK_ok (pc := 1) hx hb hSt.2.2.2.2.2.2.2 dX12_end_1 rfl hk (hJ 9)) ?_
  refine rz_All_c (i := 2) (fun k J hk hJ => rz_iload_n_ok (pc := 4) hx hb dX12_end_4 rfl hk) ?_
  refine rz_All_c (i := 3) (fun k J hk hJ => rz_bipush_ok (pc := 5) hx hb dX12_end_5 (by decide) hk) ?_
  refine rz_All_c (i := 4) (fun k J hk hJ => rz_icmpgtK_ok (pc := 7) hx hb hSt.2.2.2.2.2.2.2 dX12_end_7 rfl hk (hJ 9)) ?_
  refine rz_All_c (i := 5) (fun k J hk hJ => rz_aload_n_ok (pc := 10) hx hb dX12_end_10 rfl hk) ?_
  refine rz_All_c (i := 6) (fun k J hk hJ => rz_getf_ok (pc := 11) (own := RX12) (ref := "ThreadJudgeModel") (C := RX12) (T := TX12) (N := 257) (ci := 14) (index := 575) (f := 1) (t := 0) (Ts := Cond.code yX12_end cX12_end 2 (some .int) :: rz_TB) hx hb hts rz_in14 ho hK rfl (by decide) rfl (fun _ => rfl) (hw (i := 32) (j := 11) rfl rfl) (fun _ z => z) dX12_end_11 hk) ?_
  refine rz_All_c (i := 7) (fun k J hk hJ => rz_bipush_ok (pc := 14) hx hb dX12_end_14 (by decide) hk) ?_
  refine rz_All_c (i := 8) (fun k J hk hJ => rz_icmpge_ok (pc := 16) hx hb dX12_end_16 rfl hk (hJ 11)) ?_
  refine rz_All_c (i := 9) (fun k J hk hJ => rz_iconst_ok (pc := 19) hx hb dX12_end_19 rfl hk) ?_
  refine rz_All_c (i := 10) (fun k J hk hJ => rz_iret_ok (pc := 20) hC dX12_end_20) ?_
  refine rz_All_c (i := 11) (fun k J hk hJ => rz_no_ok) ?_
  exact trivial
theorem dX11_change_0 : decode cX11_change 0 = .ok (.iload_n 1, 1) := by decide +kernel
theorem dX11_change_1 : decode cX11_change 1 = .ok (.ifCond .lt 22, 3) := by decide +kernel
theorem dX11_change_4 : decode cX11_change 4 = .ok (.iload_n 1, 1) := by decide +kernel
theorem dX11_change_5 : decode cX11_change 5 = .ok (.aload_n 0, 1) := by decide +kernel
theorem dX11_change_6 : decode cX11_change 6 = .ok (.getfield 112, 3) := by decide +kernel
theorem dX11_change_9 : decode cX11_change 9 = .ok (.if_icmp .ge 14, 3) := by decide +kernel
theorem dX11_change_23 : decode cX11_change 23 = .ok (.iconst (-1), 1) := by decide +kernel
theorem dX11_change_24 : decode cX11_change 24 = .ok (.ireturn, 1) := by decide +kernel
def rpX11_change : List Nat := [0, 1, 4, 5, 6, 9, 12, 23, 24]
noncomputable def rcX11_change : List rz_B := [rz_iload 1, rz_ifltK 7, rz_iload 1, rz_aload 0, rz_getf (Nat.add (Nat.mul 256 13) 1) 1 rz_i, rz_icmpgeK 7, rz_no, rz_cst 4294967295, rz_iret]
noncomputable def rgX11_change : rz_L → rz_M → rz_Z → Bool := rz_go rcX11_change 4 1000000
def rrX11_change : Room := { frames := 0, cells := 0, slots := 0, locals := 0 }
theorem rmX11_change (l : Launch) {G : rz_G} (hG : rz_Gd G) (vs : rz_L) (M : rz_M) (Z : rz_Z) (hn : vs.length = 3) (h : rgX11_change vs M Z = true) : Met l yX11_change (Cond.code yX11_change cX11_change 4 (some .int) :: rz_TB) rrX11_change (rz_Pre G vs M) (rz_Qi G M.2 Z) 0 0 (fun q => rz_b G ≤ q) := by
  obtain ⟨D, tc, ad, b, xs, rfl⟩ := id hG
  refine rz_body (pcs := rpX11_change) (by decide) rfl (by rw [hn]; decide) h ?_
  intro p e R s m args below meth c hC
  obtain ⟨hx, hb, hml, hr, hlk, ho, hts, hKn, hRm⟩ := id hC
  obtain ⟨hK, hA, hSt⟩ := id hKn
  have hw : ∀ {i j : Nat} {ws : List Cond} {w : Cond}, rz_WW[i]? = some ws → ws[j]? = some w → w.before args s = true := fun h1 h2 => hts _ (List.mem_cons_of_mem _ (rz_mem h1 h2))
  refine rz_All_c (i := 0) (fun k J hk hJ => rz_iload_n_ok (pc := 0) hx hb dX11_change_0 rfl hk) ?_
  refine rz_All_c (i := 1) (fun k J hk hJ => rz_ifltK_ok (pc := 1) hx hb hSt.2.2.2.2.2.2.2 dX11_change_1 rfl hk (hJ 7)) ?_
  refine rz_All_c (i := 2) (fun k J hk hJ => rz_iload_n_ok (pc := 4) hx hb dX11_change_4 rfl hk) ?_
  refine rz_All_c (i := 3) (fun k J hk hJ => rz_aload_n_ok (pc := 5) hx hb dX11_change_5 rfl hk) ?_
  refine rz_All_c (i := 4) (fun k J hk hJ => rz_getf_ok (pc := 6) (own := RX11) (ref := "ThreadJudge") (C := RX11) (T := TX11) (N := 16) (ci := 13) (index := 112) (f := 1) (t := 0) (Ts := Cond.code yX11_change cX11_change 4 (some .int) :: rz_TB) hx hb hts rz_in13 ho hK rfl (by decide) rfl (fun _ => rfl) (hw (i := 0) (j := 11) rfl rfl) (fun _ z => z) dX11_change_6 hk) ?_
  refine rz_All_c (i := 5) (fun k J hk hJ => rz_icmpgeK_ok (pc := 9) hx hb hSt.2.2.2.2.2.2.2 dX11_change_9 rfl hk (hJ 7)) ?_
  refine rz_All_c (i := 6) (fun k J hk hJ => rz_no_ok) ?_
  refine rz_All_c (i := 7) (fun k J hk hJ => rz_iconst_ok (pc := 23) hx hb dX11_change_23 rfl hk) ?_
  refine rz_All_c (i := 8) (fun k J hk hJ => rz_iret_ok (pc := 24) hC dX11_change_24) ?_
  exact trivial
theorem dX12_change_0 : decode cX12_change 0 = .ok (.iload_n 1, 1) := by decide +kernel
theorem dX12_change_1 : decode cX12_change 1 = .ok (.ifCond .lt 22, 3) := by decide +kernel
theorem dX12_change_4 : decode cX12_change 4 = .ok (.iload_n 1, 1) := by decide +kernel
theorem dX12_change_5 : decode cX12_change 5 = .ok (.aload_n 0, 1) := by decide +kernel
theorem dX12_change_6 : decode cX12_change 6 = .ok (.getfield 575, 3) := by decide +kernel
theorem dX12_change_9 : decode cX12_change 9 = .ok (.if_icmp .ge 14, 3) := by decide +kernel
theorem dX12_change_23 : decode cX12_change 23 = .ok (.iconst (-1), 1) := by decide +kernel
theorem dX12_change_24 : decode cX12_change 24 = .ok (.ireturn, 1) := by decide +kernel
def rpX12_change : List Nat := [0, 1, 4, 5, 6, 9, 12, 23, 24]
noncomputable def rcX12_change : List rz_B := [rz_iload 1, rz_ifltK 7, rz_iload 1, rz_aload 0, rz_getf (Nat.add (Nat.mul 256 14) 1) 1 rz_i, rz_icmpgeK 7, rz_no, rz_cst 4294967295, rz_iret]
noncomputable def rgX12_change : rz_L → rz_M → rz_Z → Bool := rz_go rcX12_change 4 1000000
def rrX12_change : Room := { frames := 0, cells := 0, slots := 0, locals := 0 }
theorem rmX12_change (l : Launch) {G : rz_G} (hG : rz_Gd G) (vs : rz_L) (M : rz_M) (Z : rz_Z) (hn : vs.length = 3) (h : rgX12_change vs M Z = true) : Met l yX12_change (Cond.code yX12_change cX12_change 4 (some .int) :: rz_TB) rrX12_change (rz_Pre G vs M) (rz_Qi G M.2 Z) 0 0 (fun q => rz_b G ≤ q) := by
  obtain ⟨D, tc, ad, b, xs, rfl⟩ := id hG
  refine rz_body (pcs := rpX12_change) (by decide) rfl (by rw [hn]; decide) h ?_
  intro p e R s m args below meth c hC
  obtain ⟨hx, hb, hml, hr, hlk, ho, hts, hKn, hRm⟩ := id hC
  obtain ⟨hK, hA, hSt⟩ := id hKn
  have hw : ∀ {i j : Nat} {ws : List Cond} {w : Cond}, rz_WW[i]? = some ws → ws[j]? = some w → w.before args s = true := fun h1 h2 => hts _ (List.mem_cons_of_mem _ (rz_mem h1 h2))
  refine rz_All_c (i := 0) (fun k J hk hJ => rz_iload_n_ok (pc := 0) hx hb dX12_change_0 rfl hk) ?_
  refine rz_All_c (i := 1) (fun k J hk hJ => rz_ifltK_ok (pc := 1) hx hb hSt.2.2.2.2.2.2.2 dX12_change_1 rfl hk (hJ 7)) ?_
  refine rz_All_c (i := 2) (fun k J hk hJ => rz_iload_n_ok (pc := 4) hx hb dX12_change_4 rfl hk) ?_
  refine rz_All_c (i := 3) (fun k J hk hJ => rz_aload_n_ok (pc := 5) hx hb dX12_change_5 rfl hk) ?_
  refine rz_All_c (i := 4) (fun k J hk hJ => rz_getf_ok (pc := 6) (own := RX12) (ref := "ThreadJudgeModel") (C := RX12) (T := TX12) (N := 257) (ci := 14) (index := 575) (f := 1) (t := 0) (Ts := Cond.code yX12_change cX12_change 4 (some .int) :: rz_TB) hx hb hts rz_in14 ho hK rfl (by decide) rfl (fun _ => rfl) (hw (i := 32) (j := 11) rfl rfl) (fun _ z => z) dX12_change_6 hk) ?_
  refine rz_All_c (i := 5) (fun k J hk hJ => rz_icmpgeK_ok (pc := 9) hx hb hSt.2.2.2.2.2.2.2 dX12_change_9 rfl hk (hJ 7)) ?_
  refine rz_All_c (i := 6) (fun k J hk hJ => rz_no_ok) ?_
  refine rz_All_c (i := 7) (fun k J hk hJ => rz_iconst_ok (pc := 23) hx hb dX12_change_23 rfl hk) ?_
  refine rz_All_c (i := 8) (fun k J hk hJ => rz_iret_ok (pc := 24) hC dX12_change_24) ?_
  exact trivial
theorem dX11_clear_0 : decode cX11_clear 0 = .ok (.aload_n 0, 1) := by decide +kernel
theorem dX11_clear_1 : decode cX11_clear 1 = .ok (.getfield 112, 3) := by decide +kernel
theorem dX11_clear_4 : decode cX11_clear 4 = .ok (.istore_n 1, 1) := by decide +kernel
theorem dX11_clear_5 : decode cX11_clear 5 = .ok (.aload_n 0, 1) := by decide +kernel
theorem dX11_clear_6 : decode cX11_clear 6 = .ok (.iconst 0, 1) := by decide +kernel
theorem dX11_clear_7 : decode cX11_clear 7 = .ok (.putfield 112, 3) := by decide +kernel
theorem dX11_clear_10 : decode cX11_clear 10 = .ok (.iload_n 1, 1) := by decide +kernel
theorem dX11_clear_11 : decode cX11_clear 11 = .ok (.ireturn, 1) := by decide +kernel
def rpX11_clear : List Nat := [0, 1, 4, 5, 6, 7, 10, 11]
noncomputable def rcX11_clear : List rz_B := [rz_aload 0, rz_getf (Nat.add (Nat.mul 256 13) 1) 1 rz_i, rz_istore 1, rz_aload 0, rz_cst 0, rz_putf (Nat.add (Nat.mul 256 13) 1) 1 rz_unI, rz_iload 1, rz_iret]
noncomputable def rgX11_clear : rz_L → rz_M → rz_Z → Bool := rz_go rcX11_clear 2 1000000
def rrX11_clear : Room := { frames := 0, cells := 0, slots := 0, locals := 0 }
theorem rmX11_clear (l : Launch) {G : rz_G} (hG : rz_Gd G) (vs : rz_L) (M : rz_M) (Z : rz_Z) (hn : vs.length = 1) (h : rgX11_clear vs M Z = true) : Met l yX11_clear (Cond.code yX11_clear cX11_clear 2 (some .int) :: rz_TB) rrX11_clear (rz_Pre G vs M) (rz_Qi G M.2 Z) 0 0 (fun q => rz_b G ≤ q) := by
  obtain ⟨D, tc, ad, b, xs, rfl⟩ := id hG
  refine rz_body (pcs := rpX11_clear) (by decide) rfl (by rw [hn]; decide) h ?_
  intro p e R s m args below meth c hC
  obtain ⟨hx, hb, hml, hr, hlk, ho, hts, hKn, hRm⟩ := id hC
  obtain ⟨hK, hA, hSt⟩ := id hKn
  have hw : ∀ {i j : Nat} {ws : List Cond} {w : Cond}, rz_WW[i]? = some ws → ws[j]? = some w → w.before args s = true := fun h1 h2 => hts _ (List.mem_cons_of_mem _ (rz_mem h1 h2))
  refine rz_All_c (i := 0) (fun k J hk hJ => rz_aload_n_ok (pc := 0) hx hb dX11_clear_0 rfl hk) ?_
  refine rz_All_c (i := 1) (fun k J hk hJ => rz_getf_ok (pc := 1) (own := RX11) (ref := "ThreadJudge") (C := RX11) (T := TX11) (N := 16) (ci := 13) (index := 112) (f := 1) (t := 0) (Ts := Cond.code yX11_clear cX11_clear 2 (some .int) :: rz_TB) hx hb hts rz_in13 ho hK rfl (by decide) rfl (fun _ => rfl) (hw (i := 0) (j := 11) rfl rfl) (fun _ z => z) dX11_clear_1 hk) ?_
  refine rz_All_c (i := 2) (fun k J hk hJ => rz_istore_n_ok (pc := 4) hx hb dX11_clear_4 rfl hk) ?_
  refine rz_All_c (i := 3) (fun k J hk hJ => rz_aload_n_ok (pc := 5) hx hb dX11_clear_5 rfl hk) ?_
  refine rz_All_c (i := 4) (fun k J hk hJ => rz_iconst_ok (pc := 6) hx hb dX11_clear_6 rfl hk) ?_
  refine rz_All_c (i := 5) (fun k J hk hJ => rz_putf_ok (pc := 7) (own := RX11) (ref := "ThreadJudge") (C := RX11) (T := TX11) (N := 16) (ci := 13) (index := 112) (f := 1) (t := 0) (Ts := Cond.code yX11_clear cX11_clear 2 (some .int) :: rz_TB) hx hb hts rz_in13 tyX11 tyX11_ok nmX11 ho hK hA rfl (by decide) rfl (rz_UnI _) rfl (tyX11_ok 1 (by decide)) (hw (i := 0) (j := 11) rfl rfl) (fun _ z => z) dX11_clear_7 hk) ?_
  refine rz_All_c (i := 6) (fun k J hk hJ => rz_iload_n_ok (pc := 10) hx hb dX11_clear_10 rfl hk) ?_
  refine rz_All_c (i := 7) (fun k J hk hJ => rz_iret_ok (pc := 11) hC dX11_clear_11) ?_
  exact trivial
theorem dX12_clear_0 : decode cX12_clear 0 = .ok (.aload_n 0, 1) := by decide +kernel
theorem dX12_clear_1 : decode cX12_clear 1 = .ok (.getfield 575, 3) := by decide +kernel
theorem dX12_clear_4 : decode cX12_clear 4 = .ok (.istore_n 1, 1) := by decide +kernel
theorem dX12_clear_5 : decode cX12_clear 5 = .ok (.aload_n 0, 1) := by decide +kernel
theorem dX12_clear_6 : decode cX12_clear 6 = .ok (.iconst 0, 1) := by decide +kernel
theorem dX12_clear_7 : decode cX12_clear 7 = .ok (.putfield 575, 3) := by decide +kernel
theorem dX12_clear_10 : decode cX12_clear 10 = .ok (.iload_n 1, 1) := by decide +kernel
theorem dX12_clear_11 : decode cX12_clear 11 = .ok (.ireturn, 1) := by decide +kernel
def rpX12_clear : List Nat := [0, 1, 4, 5, 6, 7, 10, 11]
noncomputable def rcX12_clear : List rz_B := [rz_aload 0, rz_getf (Nat.add (Nat.mul 256 14) 1) 1 rz_i, rz_istore 1, rz_aload 0, rz_cst 0, rz_putf (Nat.add (Nat.mul 256 14) 1) 1 rz_unI, rz_iload 1, rz_iret]
noncomputable def rgX12_clear : rz_L → rz_M → rz_Z → Bool := rz_go rcX12_clear 2 1000000
def rrX12_clear : Room := { frames := 0, cells := 0, slots := 0, locals := 0 }
theorem rmX12_clear (l : Launch) {G : rz_G} (hG : rz_Gd G) (vs : rz_L) (M : rz_M) (Z : rz_Z) (hn : vs.length = 1) (h : rgX12_clear vs M Z = true) : Met l yX12_clear (Cond.code yX12_clear cX12_clear 2 (some .int) :: rz_TB) rrX12_clear (rz_Pre G vs M) (rz_Qi G M.2 Z) 0 0 (fun q => rz_b G ≤ q) := by
  obtain ⟨D, tc, ad, b, xs, rfl⟩ := id hG
  refine rz_body (pcs := rpX12_clear) (by decide) rfl (by rw [hn]; decide) h ?_
  intro p e R s m args below meth c hC
  obtain ⟨hx, hb, hml, hr, hlk, ho, hts, hKn, hRm⟩ := id hC
  obtain ⟨hK, hA, hSt⟩ := id hKn
  have hw : ∀ {i j : Nat} {ws : List Cond} {w : Cond}, rz_WW[i]? = some ws → ws[j]? = some w → w.before args s = true := fun h1 h2 => hts _ (List.mem_cons_of_mem _ (rz_mem h1 h2))
  refine rz_All_c (i := 0) (fun k J hk hJ => rz_aload_n_ok (pc := 0) hx hb dX12_clear_0 rfl hk) ?_
  refine rz_All_c (i := 1) (fun k J hk hJ => rz_getf_ok (pc := 1) (own := RX12) (ref := "ThreadJudgeModel") (C := RX12) (T := TX12) (N := 257) (ci := 14) (index := 575) (f := 1) (t := 0) (Ts := Cond.code yX12_clear cX12_clear 2 (some .int) :: rz_TB) hx hb hts rz_in14 ho hK rfl (by decide) rfl (fun _ => rfl) (hw (i := 32) (j := 11) rfl rfl) (fun _ z => z) dX12_clear_1 hk) ?_
  refine rz_All_c (i := 2) (fun k J hk hJ => rz_istore_n_ok (pc := 4) hx hb dX12_clear_4 rfl hk) ?_
  refine rz_All_c (i := 3) (fun k J hk hJ => rz_aload_n_ok (pc := 5) hx hb dX12_clear_5 rfl hk) ?_
  refine rz_All_c (i := 4) (fun k J hk hJ => rz_iconst_ok (pc := 6) hx hb dX12_clear_6 rfl hk) ?_
  refine rz_All_c (i := 5) (fun k J hk hJ => rz_putf_ok (pc := 7) (own := RX12) (ref := "ThreadJudgeModel") (C := RX12) (T := TX12) (N := 257) (ci := 14) (index := 575) (f := 1) (t := 0) (Ts := Cond.code yX12_clear cX12_clear 2 (some .int) :: rz_TB) hx hb hts rz_in14 tyX12 tyX12_ok nmX12 ho hK hA rfl (by decide) rfl (rz_UnI _) rfl (tyX12_ok 1 (by decide)) (hw (i := 32) (j := 11) rfl rfl) (fun _ z => z) dX12_clear_7 hk) ?_
  refine rz_All_c (i := 6) (fun k J hk hJ => rz_iload_n_ok (pc := 10) hx hb dX12_clear_10 rfl hk) ?_
  refine rz_All_c (i := 7) (fun k J hk hJ => rz_iret_ok (pc := 11) hC dX12_clear_11) ?_
  exact trivial
theorem dX11_count_0 : decode cX11_count 0 = .ok (.iload_n 1, 1) := by decide +kernel
theorem dX11_count_1 : decode cX11_count 1 = .ok (.ifCond .lt 9, 3) := by decide +kernel
theorem dX11_count_4 : decode cX11_count 4 = .ok (.iload_n 1, 1) := by decide +kernel
theorem dX11_count_5 : decode cX11_count 5 = .ok (.bipush 24, 2) := by decide +kernel
theorem dX11_count_7 : decode cX11_count 7 = .ok (.if_icmp .le 5, 3) := by decide +kernel
theorem dX11_count_10 : decode cX11_count 10 = .ok (.iconst (-1), 1) := by decide +kernel
theorem dX11_count_11 : decode cX11_count 11 = .ok (.ireturn, 1) := by decide +kernel
theorem dX11_count_12 : decode cX11_count 12 = .ok (.iload_n 1, 1) := by decide +kernel
theorem dX11_count_13 : decode cX11_count 13 = .ok (.iconst 3, 1) := by decide +kernel
theorem dX11_count_14 : decode cX11_count 14 = .ok (.if_icmp .ge 31, 3) := by decide +kernel
theorem dX11_count_17 : decode cX11_count 17 = .ok (.iload_n 1, 1) := by decide +kernel
theorem dX11_count_18 : decode cX11_count 18 = .ok (.ifCond .ne 10, 3) := by decide +kernel
theorem dX11_count_21 : decode cX11_count 21 = .ok (.aload_n 0, 1) := by decide +kernel
theorem dX11_count_22 : decode cX11_count 22 = .ok (.getfield 131, 3) := by decide +kernel
theorem dX11_count_25 : decode cX11_count 25 = .ok (.goto 19, 3) := by decide +kernel
theorem dX11_count_28 : decode cX11_count 28 = .ok (.iload_n 1, 1) := by decide +kernel
theorem dX11_count_29 : decode cX11_count 29 = .ok (.iconst 1, 1) := by decide +kernel
theorem dX11_count_30 : decode cX11_count 30 = .ok (.if_icmp .ne 10, 3) := by decide +kernel
theorem dX11_count_33 : decode cX11_count 33 = .ok (.aload_n 0, 1) := by decide +kernel
theorem dX11_count_34 : decode cX11_count 34 = .ok (.getfield 13, 3) := by decide +kernel
theorem dX11_count_37 : decode cX11_count 37 = .ok (.goto 7, 3) := by decide +kernel
theorem dX11_count_40 : decode cX11_count 40 = .ok (.aload_n 0, 1) := by decide +kernel
theorem dX11_count_41 : decode cX11_count 41 = .ok (.getfield 112, 3) := by decide +kernel
theorem dX11_count_44 : decode cX11_count 44 = .ok (.ireturn, 1) := by decide +kernel
theorem dX11_count_45 : decode cX11_count 45 = .ok (.iload_n 1, 1) := by decide +kernel
theorem dX11_count_46 : decode cX11_count 46 = .ok (.bipush 8, 2) := by decide +kernel
theorem dX11_count_48 : decode cX11_count 48 = .ok (.if_icmp .ge 26, 3) := by decide +kernel
theorem dX11_count_51 : decode cX11_count 51 = .ok (.aload_n 0, 1) := by decide +kernel
theorem dX11_count_52 : decode cX11_count 52 = .ok (.getfield 20, 3) := by decide +kernel
theorem dX11_count_55 : decode cX11_count 55 = .ok (.getfield 108, 3) := by decide +kernel
theorem dX11_count_58 : decode cX11_count 58 = .ok (.ifCond .eq 14, 3) := by decide +kernel
theorem dX11_count_72 : decode cX11_count 72 = .ok (.iconst 0, 1) := by decide +kernel
theorem dX11_count_73 : decode cX11_count 73 = .ok (.ireturn, 1) := by decide +kernel
theorem dX11_count_74 : decode cX11_count 74 = .ok (.iload_n 1, 1) := by decide +kernel
theorem dX11_count_75 : decode cX11_count 75 = .ok (.bipush 17, 2) := by decide +kernel
theorem dX11_count_77 : decode cX11_count 77 = .ok (.if_icmp .ge 23, 3) := by decide +kernel
theorem dX11_count_80 : decode cX11_count 80 = .ok (.aload_n 0, 1) := by decide +kernel
theorem dX11_count_81 : decode cX11_count 81 = .ok (.getfield 52, 3) := by decide +kernel
theorem dX11_count_84 : decode cX11_count 84 = .ok (.getfield 122, 3) := by decide +kernel
theorem dX11_count_87 : decode cX11_count 87 = .ok (.ifCond .eq 11, 3) := by decide +kernel
theorem dX11_count_98 : decode cX11_count 98 = .ok (.iconst 0, 1) := by decide +kernel
theorem dX11_count_99 : decode cX11_count 99 = .ok (.ireturn, 1) := by decide +kernel
theorem dX11_count_100 : decode cX11_count 100 = .ok (.aload_n 0, 1) := by decide +kernel
theorem dX11_count_101 : decode cX11_count 101 = .ok (.getfield 104, 3) := by decide +kernel
theorem dX11_count_104 : decode cX11_count 104 = .ok (.getfield 125, 3) := by decide +kernel
theorem dX11_count_107 : decode cX11_count 107 = .ok (.ifCond .eq 14, 3) := by decide +kernel
theorem dX11_count_121 : decode cX11_count 121 = .ok (.iconst 0, 1) := by decide +kernel
theorem dX11_count_122 : decode cX11_count 122 = .ok (.ireturn, 1) := by decide +kernel
def rpX11_count : List Nat := [0, 1, 4, 5, 7, 10, 11, 12, 13, 14, 17, 18, 21, 22, 25, 28, 29, 30, 33, 34, 37, 40, 41, 44, 45, 46, 48, 51, 52, 55, 58, 61, 72, 73, 74, 75, 77, 80, 81, 84, 87, 90, 98, 99, 100, 101, 104, 107, 110, 121, 122]
noncomputable def rcX11_count : List rz_B := [rz_iload 1, rz_ifltK 5, rz_iload 1, rz_cst 24, rz_icmpleK 7, rz_cst 4294967295, rz_iret, rz_iload 1, rz_cst 3, rz_icmpge 24, rz_iload 1, rz_ifne 15, rz_aload 0, rz_getf (Nat.add (Nat.mul 256 13) 1) 2 rz_i, rz_goto 23, rz_iload 1, rz_cst 1, rz_icmpne 21, rz_aload 0, rz_getf (Nat.add (Nat.mul 256 13) 1) 3 rz_i, rz_goto 23, rz_aload 0, rz_getf (Nat.add (Nat.mul 256 13) 1) 1 rz_i, rz_iret, rz_iload 1, rz_cst 8, rz_icmpge 34, rz_aload 0, rz_getf (Nat.add (Nat.mul 256 13) 1) 5 rz_r, rz_getf (Nat.add (Nat.mul 256 9) 1) 0 rz_i, rz_ifeq 32, rz_no, rz_cst 0, rz_iret, rz_iload 1, rz_cst 17, rz_icmpge 44, rz_aload 0, rz_getf (Nat.add (Nat.mul 256 13) 1) 9 rz_r, rz_getf (Nat.add (Nat.mul 256 4) 1) 1 rz_i, rz_ifeq 42, rz_no, rz_cst 0, rz_iret, rz_aload 0, rz_getf (Nat.add (Nat.mul 256 13) 1) 15 rz_r, rz_getf (Nat.add (Nat.mul 256 7) 1) 5 rz_i, rz_ifeq 49, rz_no, rz_cst 0, rz_iret]
noncomputable def rgX11_count : rz_L → rz_M → rz_Z → Bool := rz_go rcX11_count 2 1000000
def rrX11_count : Room := { frames := 0, cells := 0, slots := 0, locals := 0 }
theorem rmX11_count (l : Launch) {G : rz_G} (hG : rz_Gd G) (vs : rz_L) (M : rz_M) (Z : rz_Z) (hn : vs.length = 2) (h : rgX11_count vs M Z = true) : Met l yX11_count (Cond.code yX11_count cX11_count 2 (some .int) :: rz_TB) rrX11_count (rz_Pre G vs M) (rz_Qi G M.2 Z) 0 0 (fun q => rz_b G ≤ q) := by
  obtain ⟨D, tc, ad, b, xs, rfl⟩ := id hG
  refine rz_body (pcs := rpX11_count) (by decide) rfl (by rw [hn]; decide) h ?_
  intro p e R s m args below meth c hC
  obtain ⟨hx, hb, hml, hr, hlk, ho, hts, hKn, hRm⟩ := id hC
  obtain ⟨hK, hA, hSt⟩ := id hKn
  have hw : ∀ {i j : Nat} {ws : List Cond} {w : Cond}, rz_WW[i]? = some ws → ws[j]? = some w → w.before args s = true := fun h1 h2 => hts _ (List.mem_cons_of_mem _ (rz_mem h1 h2))
  refine rz_All_c (i := 0) (fun k J hk hJ => rz_iload_n_ok (pc := 0) hx hb dX11_count_0 rfl hk) ?_
  refine rz_All_c (i := 1) (fun k J hk hJ => rz_ifltK_ok (pc := 1) hx hb hSt.2.2.2.2.2.2.2 dX11_count_1 rfl hk (hJ 5)) ?_
  refine rz_All_c (i := 2) (fun k J hk hJ => rz_iload_n_ok (pc := 4) hx hb dX11_count_4 rfl hk) ?_
  refine rz_All_c (i := 3) (fun k J hk hJ => rz_bipush_ok (pc := 5) hx hb dX11_count_5 (by decide) hk) ?_
  refine rz_All_c (i := 4) (fun k J hk hJ => rz_icmpleK_ok (pc := 7) hx hb hSt.2.2.2.2.2.2.2 dX11_count_7 rfl hk (hJ 7)) ?_
  refine rz_All_c (i := 5) (fun k J hk hJ => rz_iconst_ok (pc := 10) hx hb dX11_count_10 rfl hk) ?_
  refine rz_All_c (i := 6) (fun k J hk hJ => rz_iret_ok (pc := 11) hC dX11_count_11) ?_
  refine rz_All_c (i := 7) (fun k J hk hJ => rz_iload_n_ok (pc := 12) hx hb dX11_count_12 rfl hk) ?_
  refine rz_All_c (i := 8) (fun k J hk hJ => rz_iconst_ok (pc := 13) hx hb dX11_count_13 rfl hk) ?_
  refine rz_All_c (i := 9) (fun k J hk hJ => rz_icmpge_ok (pc := 14) hx hb dX11_count_14 rfl hk (hJ 24)) ?_
  refine rz_All_c (i := 10) (fun k J hk hJ => rz_iload_n_ok (pc := 17) hx hb dX11_count_17 rfl hk) ?_
  refine rz_All_c (i := 11) (fun k J hk hJ => rz_ifne_ok (pc := 18) hx hb dX11_count_18 rfl hk (hJ 15)) ?_
  refine rz_All_c (i := 12) (fun k J hk hJ => rz_aload_n_ok (pc := 21) hx hb dX11_count_21 rfl hk) ?_
  refine rz_All_c (i := 13) (fun k J hk hJ => rz_getf_ok (pc := 22) (own := RX11) (ref := "ThreadJudge") (C := RX11) (T := TX11) (N := 16) (ci := 13) (index := 131) (f := 2) (t := 0) (Ts := Cond.code yX11_count cX11_count 2 (some .int) :: rz_TB) hx hb hts rz_in13 ho hK rfl (by decide) rfl (fun _ => rfl) (hw (i := 0) (j := 6) rfl rfl) (fun _ z => z) dX11_count_22 hk) ?_
  refine rz_All_c (i := 14) (fun k J hk hJ => rz_goto_ok (pc := 25) hx hb dX11_count_25 rfl (hJ 23)) ?_
  refine rz_All_c (i := 15) (fun k J hk hJ => rz_iload_n_ok (pc := 28) hx hb dX11_count_28 rfl hk) ?_
  refine rz_All_c (i := 16) (fun k J hk hJ => rz_iconst_ok (pc := 29) hx hb dX11_count_29 rfl hk) ?_
  refine rz_All_c (i := 17) (fun k J hk hJ => rz_icmpne_ok (pc := 30) hx hb dX11_count_30 rfl hk (hJ 21)) ?_
  refine rz_All_c (i := 18) (fun k J hk hJ => rz_aload_n_ok (pc := 33) hx hb dX11_count_33 rfl hk) ?_
  refine rz_All_c (i := 19) (fun k J hk hJ => rz_getf_ok (pc := 34) (own := RX11) (ref := "ThreadJudge") (C := RX11) (T := TX11) (N := 16) (ci := 13) (index := 13) (f := 3) (t := 0) (Ts := Cond.code yX11_count cX11_count 2 (some .int) :: rz_TB) hx hb hts rz_in13 ho hK rfl (by decide) rfl (fun _ => rfl) (hw (i := 0) (j := 7) rfl rfl) (fun _ z => z) dX11_count_34 hk) ?_
  refine rz_All_c (i := 20) (fun k J hk hJ => rz_goto_ok (pc := 37) hx hb dX11_count_37 rfl (hJ 23)) ?_
  refine rz_All_c (i := 21) (fun k J hk hJ => rz_aload_n_ok (pc := 40) hx hb dX11_count_40 rfl hk) ?_
  refine rz_All_c (i := 22) (fun k J hk hJ => rz_getf_ok (pc := 41) (own := RX11) (ref := "ThreadJudge") (C := RX11) (T := TX11) (N := 16) (ci := 13) (index := 112) (f := 1) (t := 0) (Ts := Cond.code yX11_count cX11_count 2 (some .int) :: rz_TB) hx hb hts rz_in13 ho hK rfl (by decide) rfl (fun _ => rfl) (hw (i := 0) (j := 11) rfl rfl) (fun _ z => z) dX11_count_41 hk) ?_
  refine rz_All_c (i := 23) (fun k J hk hJ => rz_iret_ok (pc := 44) hC dX11_count_44) ?_
  refine rz_All_c (i := 24) (fun k J hk hJ => rz_iload_n_ok (pc := 45) hx hb dX11_count_45 rfl hk) ?_
  refine rz_All_c (i := 25) (fun k J hk hJ => rz_bipush_ok (pc := 46) hx hb dX11_count_46 (by decide) hk) ?_
  refine rz_All_c (i := 26) (fun k J hk hJ => rz_icmpge_ok (pc := 48) hx hb dX11_count_48 rfl hk (hJ 34)) ?_
  refine rz_All_c (i := 27) (fun k J hk hJ => rz_aload_n_ok (pc := 51) hx hb dX11_count_51 rfl hk) ?_
  refine rz_All_c (i := 28) (fun k J hk hJ => rz_getf_ok (pc := 52) (own := RX11) (ref := "ThreadJudge") (C := RX11) (T := TX11) (N := 16) (ci := 13) (index := 20) (f := 5) (t := 2) (Ts := Cond.code yX11_count cX11_count 2 (some .int) :: rz_TB) hx hb hts rz_in13 ho hK rfl (by decide) rfl (fun _ => rfl) (hw (i := 0) (j := 0) rfl rfl) (fun _ z => z) dX11_count_52 hk) ?_
  refine rz_All_c (i := 29) (fun k J hk hJ => rz_getf_ok (pc := 55) (own := RX11) (ref := "ThreadJudge$Program") (C := RX7) (T := TX7) (N := 22) (ci := 9) (index := 108) (f := 0) (t := 0) (Ts := Cond.code yX11_count cX11_count 2 (some .int) :: rz_TB) hx hb hts rz_in9 ho hK rfl (by decide) rfl (fun _ => rfl) (hw (i := 0) (j := 20) rfl rfl) (fun _ z => z) dX11_count_55 hk) ?_
  refine rz_All_c (i := 30) (fun k J hk hJ => rz_ifeq_ok (pc := 58) hx hb dX11_count_58 rfl hk (hJ 32)) ?_
  refine rz_All_c (i := 31) (fun k J hk hJ => rz_no_ok) ?_
  refine rz_All_c (i := 32) (fun k J hk hJ => rz_iconst_ok (pc := 72) hx hb dX11_count_72 rfl hk) ?_
  refine rz_All_c (i := 33) (fun k J hk hJ => rz_iret_ok (pc := 73) hC dX11_count_73) ?_
  refine rz_All_c (i := 34) (fun k J hk hJ => rz_iload_n_ok (pc := 74) hx hb dX11_count_74 rfl hk) ?_
  refine rz_All_c (i := 35) (fun k J hk hJ => rz_bipush_ok (pc := 75) hx hb dX11_count_75 (by decide) hk) ?_
  refine rz_All_c (i := 36) (fun k J hk hJ => rz_icmpge_ok (pc := 77) hx hb dX11_count_77 rfl hk (hJ 44)) ?_
  refine rz_All_c (i := 37) (fun k J hk hJ => rz_aload_n_ok (pc := 80) hx hb dX11_count_80 rfl hk) ?_
  refine rz_All_c (i := 38) (fun k J hk hJ => rz_getf_ok (pc := 81) (own := RX11) (ref := "ThreadJudge") (C := RX11) (T := TX11) (N := 16) (ci := 13) (index := 52) (f := 9) (t := 2) (Ts := Cond.code yX11_count cX11_count 2 (some .int) :: rz_TB) hx hb hts rz_in13 ho hK rfl (by decide) rfl (fun _ => rfl) (hw (i := 0) (j := 1) rfl rfl) (fun _ z => z) dX11_count_81 hk) ?_
  refine rz_All_c (i := 39) (fun k J hk hJ => rz_getf_ok (pc := 84) (own := RX11) (ref := "ThreadJudge$Flow") (C := RX2) (T := TX2) (N := 22) (ci := 4) (index := 122) (f := 1) (t := 0) (Ts := Cond.code yX11_count cX11_count 2 (some .int) :: rz_TB) hx hb hts rz_in4 ho hK rfl (by decide) rfl (fun _ => rfl) (hw (i := 0) (j := 2) rfl rfl) (fun _ z => z) dX11_count_84 hk) ?_
  refine rz_All_c (i := 40) (fun k J hk hJ => rz_ifeq_ok (pc := 87) hx hb dX11_count_87 rfl hk (hJ 42)) ?_
  refine rz_All_c (i := 41) (fun k J hk hJ => rz_no_ok) ?_
  refine rz_All_c (i := 42) (fun k J hk hJ => rz_iconst_ok (pc := 98) hx hb dX11_count_98 rfl hk) ?_
  refine rz_All_c (i := 43) (fun k J hk hJ => rz_iret_ok (pc := 99) hC dX11_count_99) ?_
  refine rz_All_c (i := 44) (fun k J hk hJ => rz_aload_n_ok (pc := 100) hx hb dX11_count_100 rfl hk) ?_
  refine rz_All_c (i := 45) (fun k J hk hJ => rz_getf_ok (pc := 101) (own := RX11) (ref := "ThreadJudge") (C := RX11) (T := TX11) (N := 16) (ci := 13) (index := 104) (f := 15) (t := 2) (Ts := Cond.code yX11_count cX11_count 2 (some .int) :: rz_TB) hx hb hts rz_in13 ho hK rfl (by decide) rfl (fun _ => rfl) (hw (i := 0) (j := 3) rfl rfl) (fun _ z => z) dX11_count_101 hk) ?_
  refine rz_All_c (i := 46) (fun k J hk hJ => rz_getf_ok (pc := 104) (own := RX11) (ref := "ThreadJudge$Machine") (C := RX5) (T := TX5) (N := 19) (ci := 7) (index := 125) (f := 5) (t := 0) (Ts := Cond.code yX11_count cX11_count 2 (some .int) :: rz_TB) hx hb hts rz_in7 ho hK rfl (by decide) rfl (fun _ => rfl) (hw (i := 0) (j := 4) rfl rfl) (fun _ z => z) dX11_count_104 hk) ?_
  refine rz_All_c (i := 47) (fun k J hk hJ => rz_ifeq_ok (pc := 107) hx hb dX11_count_107 rfl hk (hJ 49)) ?_
  refine rz_All_c (i := 48) (fun k J hk hJ => rz_no_ok) ?_
  refine rz_All_c (i := 49) (fun k J hk hJ => rz_iconst_ok (pc := 121) hx hb dX11_count_121 rfl hk) ?_
  refine rz_All_c (i := 50) (fun k J hk hJ => rz_iret_ok (pc := 122) hC dX11_count_122) ?_
  exact trivial
