theorem dL_law_0 : decode cL_law 0 = .ok (.new 30, 3) := by decide +kernel
theorem dL_law_3 : decode cL_law 3 = .ok (.dup, 1) := by decide +kernel
theorem dL_law_4 : decode cL_law 4 = .ok (.invokespecial 116, 3) := by decide +kernel
theorem dL_law_7 : decode cL_law 7 = .ok (.astore_n 1, 1) := by decide +kernel
theorem dL_law_8 : decode cL_law 8 = .ok (.aload_n 1, 1) := by decide +kernel
theorem dL_law_9 : decode cL_law 9 = .ok (.aload_n 0, 1) := by decide +kernel
theorem dL_law_10 : decode cL_law 10 = .ok (.invokestatic 117, 3) := by decide +kernel
theorem dL_law_13 : decode cL_law 13 = .ok (.astore_n 2, 1) := by decide +kernel
theorem dL_law_14 : decode cL_law 14 = .ok (.aload_n 2, 1) := by decide +kernel
theorem dL_law_15 : decode cL_law 15 = .ok (.ifnonnull 5, 3) := by decide +kernel
theorem dL_law_18 : decode cL_law 18 = .ok (.iconst 0, 1) := by decide +kernel
theorem dL_law_19 : decode cL_law 19 = .ok (.ireturn, 1) := by decide +kernel
theorem dL_law_20 : decode cL_law 20 = .ok (.iconst 0, 1) := by decide +kernel
theorem dL_law_21 : decode cL_law 21 = .ok (.istore_n 3, 1) := by decide +kernel
theorem dL_law_22 : decode cL_law 22 = .ok (.iload_n 3, 1) := by decide +kernel
theorem dL_law_23 : decode cL_law 23 = .ok (.iconst 3, 1) := by decide +kernel
theorem dL_law_24 : decode cL_law 24 = .ok (.if_icmp .ge 1015, 3) := by decide +kernel
theorem dL_law_27 : decode cL_law 27 = .ok (.aload_n 0, 1) := by decide +kernel
theorem dL_law_28 : decode cL_law 28 = .ok (.iload_n 3, 1) := by decide +kernel
theorem dL_law_29 : decode cL_law 29 = .ok (.invokestatic 108, 3) := by decide +kernel
theorem dL_law_32 : decode cL_law 32 = .ok (.iconst 2, 1) := by decide +kernel
theorem dL_law_33 : decode cL_law 33 = .ok (.ishr, 1) := by decide +kernel
theorem dL_law_34 : decode cL_law 34 = .ok (.bipush 53, 2) := by decide +kernel
theorem dL_law_36 : decode cL_law 36 = .ok (.iload_n 3, 1) := by decide +kernel
theorem dL_law_37 : decode cL_law 37 = .ok (.imul, 1) := by decide +kernel
theorem dL_law_38 : decode cL_law 38 = .ok (.iadd, 1) := by decide +kernel
theorem dL_law_39 : decode cL_law 39 = .ok (.istore 4, 2) := by decide +kernel
theorem dL_law_41 : decode cL_law 41 = .ok (.iconst 0, 1) := by decide +kernel
theorem dL_law_42 : decode cL_law 42 = .ok (.istore 5, 2) := by decide +kernel
theorem dL_law_44 : decode cL_law 44 = .ok (.iload 5, 2) := by decide +kernel
theorem dL_law_46 : decode cL_law 46 = .ok (.iconst 5, 1) := by decide +kernel
theorem dL_law_47 : decode cL_law 47 = .ok (.if_icmp .ge 32, 3) := by decide +kernel
theorem dL_law_50 : decode cL_law 50 = .ok (.aload_n 1, 1) := by decide +kernel
theorem dL_law_51 : decode cL_law 51 = .ok (.aload_n 2, 1) := by decide +kernel
theorem dL_law_52 : decode cL_law 52 = .ok (.iload 4, 2) := by decide +kernel
theorem dL_law_54 : decode cL_law 54 = .ok (.iconst 3, 1) := by decide +kernel
theorem dL_law_55 : decode cL_law 55 = .ok (.iload 5, 2) := by decide +kernel
theorem dL_law_57 : decode cL_law 57 = .ok (.imul, 1) := by decide +kernel
theorem dL_law_58 : decode cL_law 58 = .ok (.ishr, 1) := by decide +kernel
theorem dL_law_59 : decode cL_law 59 = .ok (.bipush 29, 2) := by decide +kernel
theorem dL_law_61 : decode cL_law 61 = .ok (.iload 5, 2) := by decide +kernel
theorem dL_law_63 : decode cL_law 63 = .ok (.imul, 1) := by decide +kernel
theorem dL_law_64 : decode cL_law 64 = .ok (.iadd, 1) := by decide +kernel
theorem dL_law_65 : decode cL_law 65 = .ok (.invokestatic 112, 3) := by decide +kernel
theorem dL_law_68 : decode cL_law 68 = .ok (.ifCond .ne 5, 3) := by decide +kernel
theorem dL_law_71 : decode cL_law 71 = .ok (.iconst 0, 1) := by decide +kernel
theorem dL_law_72 : decode cL_law 72 = .ok (.ireturn, 1) := by decide +kernel
theorem dL_law_73 : decode cL_law 73 = .ok (.iinc 5 1, 3) := by decide +kernel
theorem dL_law_76 : decode cL_law 76 = .ok (.goto (-32), 3) := by decide +kernel
theorem dL_law_79 : decode cL_law 79 = .ok (.aload_n 1, 1) := by decide +kernel
theorem dL_law_80 : decode cL_law 80 = .ok (.invokevirtual 120, 3) := by decide +kernel
theorem dL_law_83 : decode cL_law 83 = .ok (.lstore 5, 2) := by decide +kernel
theorem dL_law_85 : decode cL_law 85 = .ok (.aload_n 1, 1) := by decide +kernel
theorem dL_law_86 : decode cL_law 86 = .ok (.invokevirtual 124, 3) := by decide +kernel
theorem dL_law_89 : decode cL_law 89 = .ok (.istore 7, 2) := by decide +kernel
theorem dL_law_91 : decode cL_law 91 = .ok (.iconst 0, 1) := by decide +kernel
theorem dL_law_92 : decode cL_law 92 = .ok (.istore 8, 2) := by decide +kernel
theorem dL_law_94 : decode cL_law 94 = .ok (.iload 8, 2) := by decide +kernel
theorem dL_law_96 : decode cL_law 96 = .ok (.iload 7, 2) := by decide +kernel
theorem dL_law_98 : decode cL_law 98 = .ok (.if_icmp .ge 296, 3) := by decide +kernel
theorem dL_law_101 : decode cL_law 101 = .ok (.iload 4, 2) := by decide +kernel
theorem dL_law_103 : decode cL_law 103 = .ok (.iload 8, 2) := by decide +kernel
theorem dL_law_105 : decode cL_law 105 = .ok (.ishr, 1) := by decide +kernel
theorem dL_law_106 : decode cL_law 106 = .ok (.iload 7, 2) := by decide +kernel
theorem dL_law_108 : decode cL_law 108 = .ok (.invokestatic 15, 3) := by decide +kernel
theorem dL_law_111 : decode cL_law 111 = .ok (.istore 9, 2) := by decide +kernel
theorem dL_law_113 : decode cL_law 113 = .ok (.iconst 0, 1) := by decide +kernel
theorem dL_law_114 : decode cL_law 114 = .ok (.istore 10, 2) := by decide +kernel
theorem dL_law_116 : decode cL_law 116 = .ok (.iload 10, 2) := by decide +kernel
theorem dL_law_118 : decode cL_law 118 = .ok (.iload 7, 2) := by decide +kernel
theorem dL_law_120 : decode cL_law 120 = .ok (.if_icmp .ge 204, 3) := by decide +kernel
theorem dL_law_123 : decode cL_law 123 = .ok (.aload_n 1, 1) := by decide +kernel
theorem dL_law_124 : decode cL_law 124 = .ok (.iload 8, 2) := by decide +kernel
theorem dL_law_126 : decode cL_law 126 = .ok (.iload 10, 2) := by decide +kernel
theorem dL_law_128 : decode cL_law 128 = .ok (.invokevirtual 127, 3) := by decide +kernel
theorem dL_law_131 : decode cL_law 131 = .ok (.istore 11, 2) := by decide +kernel
theorem dL_law_133 : decode cL_law 133 = .ok (.aload_n 1, 1) := by decide +kernel
theorem dL_law_134 : decode cL_law 134 = .ok (.iload 8, 2) := by decide +kernel
theorem dL_law_136 : decode cL_law 136 = .ok (.iload 10, 2) := by decide +kernel
theorem dL_law_138 : decode cL_law 138 = .ok (.invokevirtual 130, 3) := by decide +kernel
theorem dL_law_141 : decode cL_law 141 = .ok (.istore 12, 2) := by decide +kernel
theorem dL_law_143 : decode cL_law 143 = .ok (.aload_n 1, 1) := by decide +kernel
theorem dL_law_144 : decode cL_law 144 = .ok (.iload 8, 2) := by decide +kernel
theorem dL_law_146 : decode cL_law 146 = .ok (.iload 9, 2) := by decide +kernel
theorem dL_law_148 : decode cL_law 148 = .ok (.invokevirtual 127, 3) := by decide +kernel
theorem dL_law_151 : decode cL_law 151 = .ok (.istore 13, 2) := by decide +kernel
theorem dL_law_153 : decode cL_law 153 = .ok (.aload_n 1, 1) := by decide +kernel
theorem dL_law_154 : decode cL_law 154 = .ok (.iload 9, 2) := by decide +kernel
theorem dL_law_156 : decode cL_law 156 = .ok (.iload 10, 2) := by decide +kernel
theorem dL_law_158 : decode cL_law 158 = .ok (.invokevirtual 127, 3) := by decide +kernel
theorem dL_law_161 : decode cL_law 161 = .ok (.istore 14, 2) := by decide +kernel
theorem dL_law_163 : decode cL_law 163 = .ok (.iload 12, 2) := by decide +kernel
theorem dL_law_165 : decode cL_law 165 = .ok (.aload_n 1, 1) := by decide +kernel
theorem dL_law_166 : decode cL_law 166 = .ok (.iload 10, 2) := by decide +kernel
theorem dL_law_168 : decode cL_law 168 = .ok (.iload 8, 2) := by decide +kernel
theorem dL_law_170 : decode cL_law 170 = .ok (.invokevirtual 130, 3) := by decide +kernel
theorem dL_law_173 : decode cL_law 173 = .ok (.if_icmp .ne 74, 3) := by decide +kernel
theorem dL_law_176 : decode cL_law 176 = .ok (.iload 12, 2) := by decide +kernel
theorem dL_law_178 : decode cL_law 178 = .ok (.ifCond .eq 69, 3) := by decide +kernel
theorem dL_law_181 : decode cL_law 181 = .ok (.iload 8, 2) := by decide +kernel
theorem dL_law_183 : decode cL_law 183 = .ok (.iload 10, 2) := by decide +kernel
theorem dL_law_185 : decode cL_law 185 = .ok (.if_icmp .ne 13, 3) := by decide +kernel
theorem dL_law_188 : decode cL_law 188 = .ok (.iload 12, 2) := by decide +kernel
theorem dL_law_190 : decode cL_law 190 = .ok (.ifCond .ge 57, 3) := by decide +kernel
theorem dL_law_193 : decode cL_law 193 = .ok (.iload 11, 2) := by decide +kernel
theorem dL_law_195 : decode cL_law 195 = .ok (.ifCond .ne 52, 3) := by decide +kernel
theorem dL_law_198 : decode cL_law 198 = .ok (.iload 12, 2) := by decide +kernel
theorem dL_law_200 : decode cL_law 200 = .ok (.ifCond .le 22, 3) := by decide +kernel
theorem dL_law_203 : decode cL_law 203 = .ok (.iload 11, 2) := by decide +kernel
theorem dL_law_205 : decode cL_law 205 = .ok (.ifCond .lt 42, 3) := by decide +kernel
theorem dL_law_208 : decode cL_law 208 = .ok (.iload 11, 2) := by decide +kernel
theorem dL_law_210 : decode cL_law 210 = .ok (.iload 12, 2) := by decide +kernel
theorem dL_law_212 : decode cL_law 212 = .ok (.aload_n 1, 1) := by decide +kernel
theorem dL_law_213 : decode cL_law 213 = .ok (.iload 8, 2) := by decide +kernel
theorem dL_law_215 : decode cL_law 215 = .ok (.invokevirtual 133, 3) := by decide +kernel
theorem dL_law_218 : decode cL_law 218 = .ok (.iadd, 1) := by decide +kernel
theorem dL_law_219 : decode cL_law 219 = .ok (.if_icmp .gt 28, 3) := by decide +kernel
theorem dL_law_222 : decode cL_law 222 = .ok (.iload 13, 2) := by decide +kernel
theorem dL_law_224 : decode cL_law 224 = .ok (.ifCond .lt 25, 3) := by decide +kernel
theorem dL_law_227 : decode cL_law 227 = .ok (.iload 14, 2) := by decide +kernel
theorem dL_law_229 : decode cL_law 229 = .ok (.ifCond .lt 20, 3) := by decide +kernel
theorem dL_law_232 : decode cL_law 232 = .ok (.iload 11, 2) := by decide +kernel
theorem dL_law_234 : decode cL_law 234 = .ok (.ifCond .lt 13, 3) := by decide +kernel
theorem dL_law_237 : decode cL_law 237 = .ok (.iload 11, 2) := by decide +kernel
theorem dL_law_239 : decode cL_law 239 = .ok (.iload 13, 2) := by decide +kernel
theorem dL_law_241 : decode cL_law 241 = .ok (.iload 14, 2) := by decide +kernel
theorem dL_law_243 : decode cL_law 243 = .ok (.iadd, 1) := by decide +kernel
theorem dL_law_244 : decode cL_law 244 = .ok (.if_icmp .le 5, 3) := by decide +kernel
theorem dL_law_247 : decode cL_law 247 = .ok (.iconst 0, 1) := by decide +kernel
theorem dL_law_248 : decode cL_law 248 = .ok (.ireturn, 1) := by decide +kernel
theorem dL_law_249 : decode cL_law 249 = .ok (.aload_n 1, 1) := by decide +kernel
theorem dL_law_250 : decode cL_law 250 = .ok (.iload 8, 2) := by decide +kernel
theorem dL_law_252 : decode cL_law 252 = .ok (.iload 10, 2) := by decide +kernel
theorem dL_law_254 : decode cL_law 254 = .ok (.invokevirtual 136, 3) := by decide +kernel
theorem dL_law_257 : decode cL_law 257 = .ok (.istore 15, 2) := by decide +kernel
theorem dL_law_259 : decode cL_law 259 = .ok (.iload 15, 2) := by decide +kernel
theorem dL_law_261 : decode cL_law 261 = .ok (.ifCond .ge 7, 3) := by decide +kernel
theorem dL_law_264 : decode cL_law 264 = .ok (.iconst 1, 1) := by decide +kernel
theorem dL_law_265 : decode cL_law 265 = .ok (.goto 4, 3) := by decide +kernel
theorem dL_law_268 : decode cL_law 268 = .ok (.iconst 0, 1) := by decide +kernel
theorem dL_law_269 : decode cL_law 269 = .ok (.iload 11, 2) := by decide +kernel
theorem dL_law_271 : decode cL_law 271 = .ok (.ifCond .ge 7, 3) := by decide +kernel
theorem dL_law_274 : decode cL_law 274 = .ok (.iconst 1, 1) := by decide +kernel
theorem dL_law_275 : decode cL_law 275 = .ok (.goto 4, 3) := by decide +kernel
theorem dL_law_278 : decode cL_law 278 = .ok (.iconst 0, 1) := by decide +kernel
theorem dL_law_279 : decode cL_law 279 = .ok (.if_icmp .ne 37, 3) := by decide +kernel
theorem dL_law_282 : decode cL_law 282 = .ok (.iload 15, 2) := by decide +kernel
theorem dL_law_284 : decode cL_law 284 = .ok (.iload 7, 2) := by decide +kernel
theorem dL_law_286 : decode cL_law 286 = .ok (.iconst 1, 1) := by decide +kernel
theorem dL_law_287 : decode cL_law 287 = .ok (.isub, 1) := by decide +kernel
theorem dL_law_288 : decode cL_law 288 = .ok (.if_icmp .gt 28, 3) := by decide +kernel
theorem dL_law_291 : decode cL_law 291 = .ok (.iload 15, 2) := by decide +kernel
theorem dL_law_293 : decode cL_law 293 = .ok (.ifCond .ne 7, 3) := by decide +kernel
theorem dL_law_296 : decode cL_law 296 = .ok (.iconst 1, 1) := by decide +kernel
theorem dL_law_297 : decode cL_law 297 = .ok (.goto 4, 3) := by decide +kernel
theorem dL_law_300 : decode cL_law 300 = .ok (.iconst 0, 1) := by decide +kernel
theorem dL_law_301 : decode cL_law 301 = .ok (.iload 8, 2) := by decide +kernel
theorem dL_law_303 : decode cL_law 303 = .ok (.iload 10, 2) := by decide +kernel
theorem dL_law_305 : decode cL_law 305 = .ok (.if_icmp .ne 7, 3) := by decide +kernel
theorem dL_law_308 : decode cL_law 308 = .ok (.iconst 1, 1) := by decide +kernel
theorem dL_law_309 : decode cL_law 309 = .ok (.goto 4, 3) := by decide +kernel
theorem dL_law_312 : decode cL_law 312 = .ok (.iconst 0, 1) := by decide +kernel
theorem dL_law_313 : decode cL_law 313 = .ok (.if_icmp .eq 5, 3) := by decide +kernel
theorem dL_law_316 : decode cL_law 316 = .ok (.iconst 0, 1) := by decide +kernel
theorem dL_law_317 : decode cL_law 317 = .ok (.ireturn, 1) := by decide +kernel
theorem dL_law_318 : decode cL_law 318 = .ok (.iinc 10 1, 3) := by decide +kernel
theorem dL_law_321 : decode cL_law 321 = .ok (.goto (-205), 3) := by decide +kernel
theorem dL_law_324 : decode cL_law 324 = .ok (.aload_n 1, 1) := by decide +kernel
theorem dL_law_325 : decode cL_law 325 = .ok (.iload 8, 2) := by decide +kernel
theorem dL_law_327 : decode cL_law 327 = .ok (.aload_n 1, 1) := by decide +kernel
theorem dL_law_328 : decode cL_law 328 = .ok (.iload 8, 2) := by decide +kernel
theorem dL_law_330 : decode cL_law 330 = .ok (.invokevirtual 139, 3) := by decide +kernel
theorem dL_law_333 : decode cL_law 333 = .ok (.invokevirtual 127, 3) := by decide +kernel
theorem dL_law_336 : decode cL_law 336 = .ok (.aload_n 1, 1) := by decide +kernel
theorem dL_law_337 : decode cL_law 337 = .ok (.iload 8, 2) := by decide +kernel
theorem dL_law_339 : decode cL_law 339 = .ok (.iload 9, 2) := by decide +kernel
theorem dL_law_341 : decode cL_law 341 = .ok (.invokevirtual 127, 3) := by decide +kernel
theorem dL_law_344 : decode cL_law 344 = .ok (.if_icmp .lt 42, 3) := by decide +kernel
theorem dL_law_347 : decode cL_law 347 = .ok (.aload_n 1, 1) := by decide +kernel
theorem dL_law_348 : decode cL_law 348 = .ok (.invokevirtual 142, 3) := by decide +kernel
theorem dL_law_351 : decode cL_law 351 = .ok (.iconst 1, 1) := by decide +kernel
theorem dL_law_352 : decode cL_law 352 = .ok (.if_icmp .ne 36, 3) := by decide +kernel
theorem dL_law_355 : decode cL_law 355 = .ok (.aload_n 1, 1) := by decide +kernel
theorem dL_law_356 : decode cL_law 356 = .ok (.aload_n 1, 1) := by decide +kernel
theorem dL_law_357 : decode cL_law 357 = .ok (.invokevirtual 145, 3) := by decide +kernel
theorem dL_law_360 : decode cL_law 360 = .ok (.aload_n 1, 1) := by decide +kernel
theorem dL_law_361 : decode cL_law 361 = .ok (.aload_n 1, 1) := by decide +kernel
theorem dL_law_362 : decode cL_law 362 = .ok (.invokevirtual 145, 3) := by decide +kernel
theorem dL_law_365 : decode cL_law 365 = .ok (.invokevirtual 139, 3) := by decide +kernel
theorem dL_law_368 : decode cL_law 368 = .ok (.invokevirtual 127, 3) := by decide +kernel
theorem dL_law_371 : decode cL_law 371 = .ok (.aload_n 1, 1) := by decide +kernel
theorem dL_law_372 : decode cL_law 372 = .ok (.iload 8, 2) := by decide +kernel
theorem dL_law_374 : decode cL_law 374 = .ok (.aload_n 1, 1) := by decide +kernel
theorem dL_law_375 : decode cL_law 375 = .ok (.iload 8, 2) := by decide +kernel
theorem dL_law_377 : decode cL_law 377 = .ok (.invokevirtual 139, 3) := by decide +kernel
theorem dL_law_380 : decode cL_law 380 = .ok (.invokevirtual 127, 3) := by decide +kernel
theorem dL_law_383 : decode cL_law 383 = .ok (.if_icmp .le 5, 3) := by decide +kernel
theorem dL_law_386 : decode cL_law 386 = .ok (.iconst 0, 1) := by decide +kernel
theorem dL_law_387 : decode cL_law 387 = .ok (.ireturn, 1) := by decide +kernel
theorem dL_law_388 : decode cL_law 388 = .ok (.iinc 8 1, 3) := by decide +kernel
theorem dL_law_391 : decode cL_law 391 = .ok (.goto (-297), 3) := by decide +kernel
theorem dL_law_394 : decode cL_law 394 = .ok (.aload_n 1, 1) := by decide +kernel
theorem dL_law_395 : decode cL_law 395 = .ok (.invokevirtual 148, 3) := by decide +kernel
theorem dL_law_398 : decode cL_law 398 = .ok (.istore 8, 2) := by decide +kernel
theorem dL_law_400 : decode cL_law 400 = .ok (.iconst 0, 1) := by decide +kernel
theorem dL_law_401 : decode cL_law 401 = .ok (.istore 9, 2) := by decide +kernel
theorem dL_law_403 : decode cL_law 403 = .ok (.iload 9, 2) := by decide +kernel
theorem dL_law_405 : decode cL_law 405 = .ok (.iload 8, 2) := by decide +kernel
theorem dL_law_407 : decode cL_law 407 = .ok (.if_icmp .ge 295, 3) := by decide +kernel
theorem dL_law_410 : decode cL_law 410 = .ok (.iconst 0, 1) := by decide +kernel
theorem dL_law_411 : decode cL_law 411 = .ok (.istore 10, 2) := by decide +kernel
theorem dL_law_413 : decode cL_law 413 = .ok (.iconst 0, 1) := by decide +kernel
theorem dL_law_414 : decode cL_law 414 = .ok (.istore 11, 2) := by decide +kernel
theorem dL_law_416 : decode cL_law 416 = .ok (.iconst 0, 1) := by decide +kernel
theorem dL_law_417 : decode cL_law 417 = .ok (.istore 12, 2) := by decide +kernel
theorem dL_law_419 : decode cL_law 419 = .ok (.iload 12, 2) := by decide +kernel
theorem dL_law_421 : decode cL_law 421 = .ok (.iload 7, 2) := by decide +kernel
theorem dL_law_423 : decode cL_law 423 = .ok (.if_icmp .ge 223, 3) := by decide +kernel
theorem dL_law_426 : decode cL_law 426 = .ok (.aload_n 1, 1) := by decide +kernel
theorem dL_law_427 : decode cL_law 427 = .ok (.iload 9, 2) := by decide +kernel
theorem dL_law_429 : decode cL_law 429 = .ok (.iload 12, 2) := by decide +kernel
theorem dL_law_431 : decode cL_law 431 = .ok (.invokevirtual 150, 3) := by decide +kernel
theorem dL_law_434 : decode cL_law 434 = .ok (.istore 13, 2) := by decide +kernel
theorem dL_law_436 : decode cL_law 436 = .ok (.aload_n 1, 1) := by decide +kernel
theorem dL_law_437 : decode cL_law 437 = .ok (.iload 9, 2) := by decide +kernel
theorem dL_law_439 : decode cL_law 439 = .ok (.iload 12, 2) := by decide +kernel
theorem dL_law_441 : decode cL_law 441 = .ok (.invokevirtual 153, 3) := by decide +kernel
theorem dL_law_444 : decode cL_law 444 = .ok (.istore 14, 2) := by decide +kernel
theorem dL_law_446 : decode cL_law 446 = .ok (.aload_n 1, 1) := by decide +kernel
theorem dL_law_447 : decode cL_law 447 = .ok (.iload 9, 2) := by decide +kernel
theorem dL_law_449 : decode cL_law 449 = .ok (.iload 12, 2) := by decide +kernel
theorem dL_law_451 : decode cL_law 451 = .ok (.invokevirtual 156, 3) := by decide +kernel
theorem dL_law_454 : decode cL_law 454 = .ok (.istore 15, 2) := by decide +kernel
theorem dL_law_456 : decode cL_law 456 = .ok (.iload 10, 2) := by decide +kernel
theorem dL_law_458 : decode cL_law 458 = .ok (.iload 13, 2) := by decide +kernel
theorem dL_law_460 : decode cL_law 460 = .ok (.iconst 1, 1) := by decide +kernel
theorem dL_law_461 : decode cL_law 461 = .ok (.if_icmp .ne 12, 3) := by decide +kernel
theorem dL_law_464 : decode cL_law 464 = .ok (.aload_n 1, 1) := by decide +kernel
theorem dL_law_465 : decode cL_law 465 = .ok (.iload 12, 2) := by decide +kernel
theorem dL_law_467 : decode cL_law 467 = .ok (.invokevirtual 159, 3) := by decide +kernel
theorem dL_law_470 : decode cL_law 470 = .ok (.goto 4, 3) := by decide +kernel
theorem dL_law_473 : decode cL_law 473 = .ok (.iconst 0, 1) := by decide +kernel
theorem dL_law_474 : decode cL_law 474 = .ok (.iadd, 1) := by decide +kernel
theorem dL_law_475 : decode cL_law 475 = .ok (.istore 10, 2) := by decide +kernel
theorem dL_law_477 : decode cL_law 477 = .ok (.iload 11, 2) := by decide +kernel
theorem dL_law_479 : decode cL_law 479 = .ok (.iload 14, 2) := by decide +kernel
theorem dL_law_481 : decode cL_law 481 = .ok (.ifCond .lt 7, 3) := by decide +kernel
theorem dL_law_484 : decode cL_law 484 = .ok (.iconst 1, 1) := by decide +kernel
theorem dL_law_485 : decode cL_law 485 = .ok (.goto 4, 3) := by decide +kernel
theorem dL_law_488 : decode cL_law 488 = .ok (.iconst 0, 1) := by decide +kernel
theorem dL_law_489 : decode cL_law 489 = .ok (.iadd, 1) := by decide +kernel
theorem dL_law_490 : decode cL_law 490 = .ok (.istore 11, 2) := by decide +kernel
theorem dL_law_492 : decode cL_law 492 = .ok (.iload 13, 2) := by decide +kernel
theorem dL_law_494 : decode cL_law 494 = .ok (.ifCond .lt 103, 3) := by decide +kernel
theorem dL_law_497 : decode cL_law 497 = .ok (.iload 13, 2) := by decide +kernel
theorem dL_law_499 : decode cL_law 499 = .ok (.iconst 2, 1) := by decide +kernel
theorem dL_law_500 : decode cL_law 500 = .ok (.if_icmp .gt 97, 3) := by decide +kernel
theorem dL_law_503 : decode cL_law 503 = .ok (.iload 13, 2) := by decide +kernel
theorem dL_law_505 : decode cL_law 505 = .ok (.iconst 2, 1) := by decide +kernel
theorem dL_law_506 : decode cL_law 506 = .ok (.if_icmp .ne 7, 3) := by decide +kernel
theorem dL_law_509 : decode cL_law 509 = .ok (.iconst 1, 1) := by decide +kernel
theorem dL_law_510 : decode cL_law 510 = .ok (.goto 4, 3) := by decide +kernel
theorem dL_law_513 : decode cL_law 513 = .ok (.iconst 0, 1) := by decide +kernel
theorem dL_law_514 : decode cL_law 514 = .ok (.aload_n 1, 1) := by decide +kernel
theorem dL_law_515 : decode cL_law 515 = .ok (.iload 9, 2) := by decide +kernel
theorem dL_law_517 : decode cL_law 517 = .ok (.iload 12, 2) := by decide +kernel
theorem dL_law_519 : decode cL_law 519 = .ok (.invokevirtual 162, 3) := by decide +kernel
theorem dL_law_522 : decode cL_law 522 = .ok (.ifCond .lt 7, 3) := by decide +kernel
theorem dL_law_525 : decode cL_law 525 = .ok (.iconst 1, 1) := by decide +kernel
theorem dL_law_526 : decode cL_law 526 = .ok (.goto 4, 3) := by decide +kernel
theorem dL_law_529 : decode cL_law 529 = .ok (.iconst 0, 1) := by decide +kernel
theorem dL_law_530 : decode cL_law 530 = .ok (.if_icmp .ne 67, 3) := by decide +kernel
theorem dL_law_533 : decode cL_law 533 = .ok (.iload 13, 2) := by decide +kernel
theorem dL_law_535 : decode cL_law 535 = .ok (.iconst 1, 1) := by decide +kernel
theorem dL_law_536 : decode cL_law 536 = .ok (.if_icmp .ne 8, 3) := by decide +kernel
theorem dL_law_539 : decode cL_law 539 = .ok (.iload 14, 2) := by decide +kernel
theorem dL_law_541 : decode cL_law 541 = .ok (.ifCond .lt 56, 3) := by decide +kernel
theorem dL_law_544 : decode cL_law 544 = .ok (.iload 13, 2) := by decide +kernel
theorem dL_law_546 : decode cL_law 546 = .ok (.ifCond .ne 8, 3) := by decide +kernel
theorem dL_law_549 : decode cL_law 549 = .ok (.iload 14, 2) := by decide +kernel
theorem dL_law_551 : decode cL_law 551 = .ok (.ifCond .ge 46, 3) := by decide +kernel
theorem dL_law_554 : decode cL_law 554 = .ok (.iload 14, 2) := by decide +kernel
theorem dL_law_556 : decode cL_law 556 = .ok (.ifCond .ge 7, 3) := by decide +kernel
theorem dL_law_559 : decode cL_law 559 = .ok (.iconst 1, 1) := by decide +kernel
theorem dL_law_560 : decode cL_law 560 = .ok (.goto 4, 3) := by decide +kernel
theorem dL_law_563 : decode cL_law 563 = .ok (.iconst 0, 1) := by decide +kernel
theorem dL_law_564 : decode cL_law 564 = .ok (.iload 15, 2) := by decide +kernel
theorem dL_law_566 : decode cL_law 566 = .ok (.ifCond .ge 7, 3) := by decide +kernel
theorem dL_law_569 : decode cL_law 569 = .ok (.iconst 1, 1) := by decide +kernel
theorem dL_law_570 : decode cL_law 570 = .ok (.goto 4, 3) := by decide +kernel
theorem dL_law_573 : decode cL_law 573 = .ok (.iconst 0, 1) := by decide +kernel
theorem dL_law_574 : decode cL_law 574 = .ok (.if_icmp .ne 23, 3) := by decide +kernel
theorem dL_law_577 : decode cL_law 577 = .ok (.iload 15, 2) := by decide +kernel
theorem dL_law_579 : decode cL_law 579 = .ok (.aload_n 1, 1) := by decide +kernel
theorem dL_law_580 : decode cL_law 580 = .ok (.iload 9, 2) := by decide +kernel
theorem dL_law_582 : decode cL_law 582 = .ok (.invokevirtual 165, 3) := by decide +kernel
theorem dL_law_585 : decode cL_law 585 = .ok (.if_icmp .gt 12, 3) := by decide +kernel
theorem dL_law_588 : decode cL_law 588 = .ok (.iload 14, 2) := by decide +kernel
theorem dL_law_590 : decode cL_law 590 = .ok (.aload_n 1, 1) := by decide +kernel
theorem dL_law_591 : decode cL_law 591 = .ok (.invokevirtual 168, 3) := by decide +kernel
theorem dL_law_594 : decode cL_law 594 = .ok (.if_icmp .le 5, 3) := by decide +kernel
theorem dL_law_597 : decode cL_law 597 = .ok (.iconst 0, 1) := by decide +kernel
theorem dL_law_598 : decode cL_law 598 = .ok (.ireturn, 1) := by decide +kernel
theorem dL_law_599 : decode cL_law 599 = .ok (.iload 14, 2) := by decide +kernel
theorem dL_law_601 : decode cL_law 601 = .ok (.ifCond .lt 39, 3) := by decide +kernel
theorem dL_law_604 : decode cL_law 604 = .ok (.iload 12, 2) := by decide +kernel
theorem dL_law_606 : decode cL_law 606 = .ok (.aload_n 1, 1) := by decide +kernel
theorem dL_law_607 : decode cL_law 607 = .ok (.iload 9, 2) := by decide +kernel
theorem dL_law_609 : decode cL_law 609 = .ok (.invokevirtual 171, 3) := by decide +kernel
theorem dL_law_612 : decode cL_law 612 = .ok (.if_icmp .eq 28, 3) := by decide +kernel
theorem dL_law_615 : decode cL_law 615 = .ok (.iload 15, 2) := by decide +kernel
theorem dL_law_617 : decode cL_law 617 = .ok (.iconst 1, 1) := by decide +kernel
theorem dL_law_618 : decode cL_law 618 = .ok (.if_icmp .lt 20, 3) := by decide +kernel
theorem dL_law_621 : decode cL_law 621 = .ok (.iload 14, 2) := by decide +kernel
theorem dL_law_623 : decode cL_law 623 = .ok (.aload_n 1, 1) := by decide +kernel
theorem dL_law_624 : decode cL_law 624 = .ok (.iload 9, 2) := by decide +kernel
theorem dL_law_626 : decode cL_law 626 = .ok (.aload_n 1, 1) := by decide +kernel
theorem dL_law_627 : decode cL_law 627 = .ok (.iload 9, 2) := by decide +kernel
theorem dL_law_629 : decode cL_law 629 = .ok (.invokevirtual 171, 3) := by decide +kernel
theorem dL_law_632 : decode cL_law 632 = .ok (.invokevirtual 153, 3) := by decide +kernel
theorem dL_law_635 : decode cL_law 635 = .ok (.if_icmp .gt 5, 3) := by decide +kernel
theorem dL_law_638 : decode cL_law 638 = .ok (.iconst 0, 1) := by decide +kernel
theorem dL_law_639 : decode cL_law 639 = .ok (.ireturn, 1) := by decide +kernel
theorem dL_law_640 : decode cL_law 640 = .ok (.iinc 12 1, 3) := by decide +kernel
theorem dL_law_643 : decode cL_law 643 = .ok (.goto (-224), 3) := by decide +kernel
theorem dL_law_646 : decode cL_law 646 = .ok (.aload_n 1, 1) := by decide +kernel
theorem dL_law_647 : decode cL_law 647 = .ok (.iload 9, 2) := by decide +kernel
theorem dL_law_649 : decode cL_law 649 = .ok (.aload_n 1, 1) := by decide +kernel
theorem dL_law_650 : decode cL_law 650 = .ok (.iload 9, 2) := by decide +kernel
theorem dL_law_652 : decode cL_law 652 = .ok (.invokevirtual 171, 3) := by decide +kernel
theorem dL_law_655 : decode cL_law 655 = .ok (.invokevirtual 156, 3) := by decide +kernel
theorem dL_law_658 : decode cL_law 658 = .ok (.ifCond .ne 36, 3) := by decide +kernel
theorem dL_law_661 : decode cL_law 661 = .ok (.iload 10, 2) := by decide +kernel
theorem dL_law_663 : decode cL_law 663 = .ok (.aload_n 1, 1) := by decide +kernel
theorem dL_law_664 : decode cL_law 664 = .ok (.iload 9, 2) := by decide +kernel
theorem dL_law_666 : decode cL_law 666 = .ok (.invokevirtual 174, 3) := by decide +kernel
theorem dL_law_669 : decode cL_law 669 = .ok (.if_icmp .ne 25, 3) := by decide +kernel
theorem dL_law_672 : decode cL_law 672 = .ok (.iload 11, 2) := by decide +kernel
theorem dL_law_674 : decode cL_law 674 = .ok (.aload_n 1, 1) := by decide +kernel
theorem dL_law_675 : decode cL_law 675 = .ok (.iload 9, 2) := by decide +kernel
theorem dL_law_677 : decode cL_law 677 = .ok (.invokevirtual 177, 3) := by decide +kernel
theorem dL_law_680 : decode cL_law 680 = .ok (.if_icmp .ne 14, 3) := by decide +kernel
theorem dL_law_683 : decode cL_law 683 = .ok (.aload_n 1, 1) := by decide +kernel
theorem dL_law_684 : decode cL_law 684 = .ok (.iload 9, 2) := by decide +kernel
theorem dL_law_686 : decode cL_law 686 = .ok (.invokevirtual 180, 3) := by decide +kernel
theorem dL_law_689 : decode cL_law 689 = .ok (.iload 7, 2) := by decide +kernel
theorem dL_law_691 : decode cL_law 691 = .ok (.if_icmp .le 5, 3) := by decide +kernel
theorem dL_law_694 : decode cL_law 694 = .ok (.iconst 0, 1) := by decide +kernel
theorem dL_law_695 : decode cL_law 695 = .ok (.ireturn, 1) := by decide +kernel
theorem dL_law_696 : decode cL_law 696 = .ok (.iinc 9 1, 3) := by decide +kernel
theorem dL_law_699 : decode cL_law 699 = .ok (.goto (-296), 3) := by decide +kernel
theorem dL_law_702 : decode cL_law 702 = .ok (.iload 8, 2) := by decide +kernel
theorem dL_law_704 : decode cL_law 704 = .ok (.ifCond .ne 6, 3) := by decide +kernel
theorem dL_law_707 : decode cL_law 707 = .ok (.goto 326, 3) := by decide +kernel
theorem dL_law_710 : decode cL_law 710 = .ok (.iload 4, 2) := by decide +kernel
theorem dL_law_712 : decode cL_law 712 = .ok (.iconst 5, 1) := by decide +kernel
theorem dL_law_713 : decode cL_law 713 = .ok (.ishr, 1) := by decide +kernel
theorem dL_law_714 : decode cL_law 714 = .ok (.iload 8, 2) := by decide +kernel
theorem dL_law_716 : decode cL_law 716 = .ok (.invokestatic 15, 3) := by decide +kernel
theorem dL_law_719 : decode cL_law 719 = .ok (.istore 9, 2) := by decide +kernel
theorem dL_law_721 : decode cL_law 721 = .ok (.iload 4, 2) := by decide +kernel
theorem dL_law_723 : decode cL_law 723 = .ok (.bipush 7, 2) := by decide +kernel
theorem dL_law_725 : decode cL_law 725 = .ok (.ishr, 1) := by decide +kernel
theorem dL_law_726 : decode cL_law 726 = .ok (.iload 7, 2) := by decide +kernel
theorem dL_law_728 : decode cL_law 728 = .ok (.invokestatic 15, 3) := by decide +kernel
theorem dL_law_731 : decode cL_law 731 = .ok (.istore 10, 2) := by decide +kernel
theorem dL_law_733 : decode cL_law 733 = .ok (.aload_n 1, 1) := by decide +kernel
theorem dL_law_734 : decode cL_law 734 = .ok (.iload 9, 2) := by decide +kernel
theorem dL_law_736 : decode cL_law 736 = .ok (.iload 10, 2) := by decide +kernel
theorem dL_law_738 : decode cL_law 738 = .ok (.invokevirtual 183, 3) := by decide +kernel
theorem dL_law_741 : decode cL_law 741 = .ok (.istore 11, 2) := by decide +kernel
theorem dL_law_743 : decode cL_law 743 = .ok (.aload_n 1, 1) := by decide +kernel
theorem dL_law_744 : decode cL_law 744 = .ok (.iload 9, 2) := by decide +kernel
theorem dL_law_746 : decode cL_law 746 = .ok (.invokevirtual 186, 3) := by decide +kernel
theorem dL_law_749 : decode cL_law 749 = .ok (.istore 12, 2) := by decide +kernel
theorem dL_law_751 : decode cL_law 751 = .ok (.aload_n 1, 1) := by decide +kernel
theorem dL_law_752 : decode cL_law 752 = .ok (.iload 9, 2) := by decide +kernel
theorem dL_law_754 : decode cL_law 754 = .ok (.invokevirtual 189, 3) := by decide +kernel
theorem dL_law_757 : decode cL_law 757 = .ok (.istore 13, 2) := by decide +kernel
theorem dL_law_759 : decode cL_law 759 = .ok (.aload_n 1, 1) := by decide +kernel
theorem dL_law_760 : decode cL_law 760 = .ok (.iload 9, 2) := by decide +kernel
theorem dL_law_762 : decode cL_law 762 = .ok (.invokevirtual 192, 3) := by decide +kernel
theorem dL_law_765 : decode cL_law 765 = .ok (.istore 14, 2) := by decide +kernel
theorem dL_law_767 : decode cL_law 767 = .ok (.aload_n 1, 1) := by decide +kernel
theorem dL_law_768 : decode cL_law 768 = .ok (.iload 9, 2) := by decide +kernel
theorem dL_law_770 : decode cL_law 770 = .ok (.iload 12, 2) := by decide +kernel
theorem dL_law_772 : decode cL_law 772 = .ok (.invokevirtual 195, 3) := by decide +kernel
theorem dL_law_775 : decode cL_law 775 = .ok (.aload_n 1, 1) := by decide +kernel
theorem dL_law_776 : decode cL_law 776 = .ok (.iload 9, 2) := by decide +kernel
theorem dL_law_778 : decode cL_law 778 = .ok (.iload 10, 2) := by decide +kernel
theorem dL_law_780 : decode cL_law 780 = .ok (.invokevirtual 195, 3) := by decide +kernel
theorem dL_law_783 : decode cL_law 783 = .ok (.if_icmp .gt 39, 3) := by decide +kernel
theorem dL_law_786 : decode cL_law 786 = .ok (.iload 10, 2) := by decide +kernel
theorem dL_law_788 : decode cL_law 788 = .ok (.iload 12, 2) := by decide +kernel
theorem dL_law_790 : decode cL_law 790 = .ok (.if_icmp .ge 22, 3) := by decide +kernel
theorem dL_law_793 : decode cL_law 793 = .ok (.aload_n 1, 1) := by decide +kernel
theorem dL_law_794 : decode cL_law 794 = .ok (.iload 9, 2) := by decide +kernel
theorem dL_law_796 : decode cL_law 796 = .ok (.iload 12, 2) := by decide +kernel
theorem dL_law_798 : decode cL_law 798 = .ok (.invokevirtual 195, 3) := by decide +kernel
theorem dL_law_801 : decode cL_law 801 = .ok (.aload_n 1, 1) := by decide +kernel
theorem dL_law_802 : decode cL_law 802 = .ok (.iload 9, 2) := by decide +kernel
theorem dL_law_804 : decode cL_law 804 = .ok (.iload 10, 2) := by decide +kernel
theorem dL_law_806 : decode cL_law 806 = .ok (.invokevirtual 195, 3) := by decide +kernel
theorem dL_law_809 : decode cL_law 809 = .ok (.if_icmp .eq 13, 3) := by decide +kernel
theorem dL_law_812 : decode cL_law 812 = .ok (.aload_n 1, 1) := by decide +kernel
theorem dL_law_813 : decode cL_law 813 = .ok (.invokevirtual 120, 3) := by decide +kernel
theorem dL_law_816 : decode cL_law 816 = .ok (.lload 5, 2) := by decide +kernel
theorem dL_law_818 : decode cL_law 818 = .ok (.lcmp, 1) := by decide +kernel
theorem dL_law_819 : decode cL_law 819 = .ok (.ifCond .eq 5, 3) := by decide +kernel
theorem dL_law_822 : decode cL_law 822 = .ok (.iconst 0, 1) := by decide +kernel
theorem dL_law_823 : decode cL_law 823 = .ok (.ireturn, 1) := by decide +kernel
theorem dL_law_824 : decode cL_law 824 = .ok (.aload_n 1, 1) := by decide +kernel
theorem dL_law_825 : decode cL_law 825 = .ok (.iload 9, 2) := by decide +kernel
theorem dL_law_827 : decode cL_law 827 = .ok (.invokevirtual 198, 3) := by decide +kernel
theorem dL_law_830 : decode cL_law 830 = .ok (.istore 15, 2) := by decide +kernel
theorem dL_law_832 : decode cL_law 832 = .ok (.iload 15, 2) := by decide +kernel
theorem dL_law_834 : decode cL_law 834 = .ok (.iload 7, 2) := by decide +kernel
theorem dL_law_836 : decode cL_law 836 = .ok (.iconst 1, 1) := by decide +kernel
theorem dL_law_837 : decode cL_law 837 = .ok (.isub, 1) := by decide +kernel
theorem dL_law_838 : decode cL_law 838 = .ok (.if_icmp .ge 36, 3) := by decide +kernel
theorem dL_law_841 : decode cL_law 841 = .ok (.iload 15, 2) := by decide +kernel
theorem dL_law_843 : decode cL_law 843 = .ok (.ifCond .lt 12, 3) := by decide +kernel
theorem dL_law_846 : decode cL_law 846 = .ok (.aload_n 1, 1) := by decide +kernel
theorem dL_law_847 : decode cL_law 847 = .ok (.iload 15, 2) := by decide +kernel
theorem dL_law_849 : decode cL_law 849 = .ok (.invokevirtual 201, 3) := by decide +kernel
theorem dL_law_852 : decode cL_law 852 = .ok (.ifCond .eq 22, 3) := by decide +kernel
theorem dL_law_855 : decode cL_law 855 = .ok (.iload 11, 2) := by decide +kernel
theorem dL_law_857 : decode cL_law 857 = .ok (.aload_n 1, 1) := by decide +kernel
theorem dL_law_858 : decode cL_law 858 = .ok (.invokevirtual 168, 3) := by decide +kernel
theorem dL_law_861 : decode cL_law 861 = .ok (.bipush 100, 2) := by decide +kernel
theorem dL_law_863 : decode cL_law 863 = .ok (.iadd, 1) := by decide +kernel
theorem dL_law_864 : decode cL_law 864 = .ok (.if_icmp .ge 10, 3) := by decide +kernel
theorem dL_law_867 : decode cL_law 867 = .ok (.iload 14, 2) := by decide +kernel
theorem dL_law_869 : decode cL_law 869 = .ok (.bipush 100, 2) := by decide +kernel
theorem dL_law_871 : decode cL_law 871 = .ok (.if_icmp .le 5, 3) := by decide +kernel
theorem dL_law_874 : decode cL_law 874 = .ok (.iconst 0, 1) := by decide +kernel
theorem dL_law_875 : decode cL_law 875 = .ok (.ireturn, 1) := by decide +kernel
theorem dL_law_876 : decode cL_law 876 = .ok (.aload_n 1, 1) := by decide +kernel
theorem dL_law_877 : decode cL_law 877 = .ok (.invokevirtual 168, 3) := by decide +kernel
theorem dL_law_880 : decode cL_law 880 = .ok (.istore 16, 2) := by decide +kernel
theorem dL_law_882 : decode cL_law 882 = .ok (.iconst 0, 1) := by decide +kernel
theorem dL_law_883 : decode cL_law 883 = .ok (.istore 17, 2) := by decide +kernel
theorem dL_law_885 : decode cL_law 885 = .ok (.iload 17, 2) := by decide +kernel
theorem dL_law_887 : decode cL_law 887 = .ok (.bipush 100, 2) := by decide +kernel
theorem dL_law_889 : decode cL_law 889 = .ok (.if_icmp .ge 106, 3) := by decide +kernel
theorem dL_law_892 : decode cL_law 892 = .ok (.iload 17, 2) := by decide +kernel
theorem dL_law_894 : decode cL_law 894 = .ok (.iload 14, 2) := by decide +kernel
theorem dL_law_896 : decode cL_law 896 = .ok (.if_icmp .ne 12, 3) := by decide +kernel
theorem dL_law_899 : decode cL_law 899 = .ok (.aload_n 1, 1) := by decide +kernel
theorem dL_law_900 : decode cL_law 900 = .ok (.iload 9, 2) := by decide +kernel
theorem dL_law_902 : decode cL_law 902 = .ok (.invokevirtual 180, 3) := by decide +kernel
theorem dL_law_905 : decode cL_law 905 = .ok (.ifCond .gt 55, 3) := by decide +kernel
theorem dL_law_908 : decode cL_law 908 = .ok (.aload_n 1, 1) := by decide +kernel
theorem dL_law_909 : decode cL_law 909 = .ok (.iload 9, 2) := by decide +kernel
theorem dL_law_911 : decode cL_law 911 = .ok (.iload 10, 2) := by decide +kernel
theorem dL_law_913 : decode cL_law 913 = .ok (.invokevirtual 153, 3) := by decide +kernel
theorem dL_law_916 : decode cL_law 916 = .ok (.ifCond .lt 7, 3) := by decide +kernel
theorem dL_law_919 : decode cL_law 919 = .ok (.iconst 1, 1) := by decide +kernel
theorem dL_law_920 : decode cL_law 920 = .ok (.goto 4, 3) := by decide +kernel
theorem dL_law_923 : decode cL_law 923 = .ok (.iconst 0, 1) := by decide +kernel
theorem dL_law_924 : decode cL_law 924 = .ok (.iload 11, 2) := by decide +kernel
theorem dL_law_926 : decode cL_law 926 = .ok (.ifCond .lt 17, 3) := by decide +kernel
theorem dL_law_929 : decode cL_law 929 = .ok (.iload 11, 2) := by decide +kernel
theorem dL_law_931 : decode cL_law 931 = .ok (.iload 16, 2) := by decide +kernel
theorem dL_law_933 : decode cL_law 933 = .ok (.iload 17, 2) := by decide +kernel
theorem dL_law_935 : decode cL_law 935 = .ok (.iadd, 1) := by decide +kernel
theorem dL_law_936 : decode cL_law 936 = .ok (.if_icmp .ge 7, 3) := by decide +kernel
theorem dL_law_939 : decode cL_law 939 = .ok (.iconst 1, 1) := by decide +kernel
theorem dL_law_940 : decode cL_law 940 = .ok (.goto 4, 3) := by decide +kernel
theorem dL_law_943 : decode cL_law 943 = .ok (.iconst 0, 1) := by decide +kernel
theorem dL_law_944 : decode cL_law 944 = .ok (.if_icmp .eq 18, 3) := by decide +kernel
theorem dL_law_947 : decode cL_law 947 = .ok (.aload_n 1, 1) := by decide +kernel
theorem dL_law_948 : decode cL_law 948 = .ok (.iload 9, 2) := by decide +kernel
theorem dL_law_950 : decode cL_law 950 = .ok (.iload 10, 2) := by decide +kernel
theorem dL_law_952 : decode cL_law 952 = .ok (.invokevirtual 153, 3) := by decide +kernel
theorem dL_law_955 : decode cL_law 955 = .ok (.iload 16, 2) := by decide +kernel
theorem dL_law_957 : decode cL_law 957 = .ok (.if_icmp .eq 5, 3) := by decide +kernel
theorem dL_law_960 : decode cL_law 960 = .ok (.iconst 0, 1) := by decide +kernel
theorem dL_law_961 : decode cL_law 961 = .ok (.ireturn, 1) := by decide +kernel
theorem dL_law_962 : decode cL_law 962 = .ok (.aload_n 2, 1) := by decide +kernel
theorem dL_law_963 : decode cL_law 963 = .ok (.invokevirtual 95, 3) := by decide +kernel
theorem dL_law_966 : decode cL_law 966 = .ok (.istore 18, 2) := by decide +kernel
theorem dL_law_968 : decode cL_law 968 = .ok (.aload_n 2, 1) := by decide +kernel
theorem dL_law_969 : decode cL_law 969 = .ok (.invokevirtual 204, 3) := by decide +kernel
theorem dL_law_972 : decode cL_law 972 = .ok (.aload_n 1, 1) := by decide +kernel
theorem dL_law_973 : decode cL_law 973 = .ok (.iconst 1, 1) := by decide +kernel
theorem dL_law_974 : decode cL_law 974 = .ok (.invokevirtual 102, 3) := by decide +kernel
theorem dL_law_977 : decode cL_law 977 = .ok (.aload_n 2, 1) := by decide +kernel
theorem dL_law_978 : decode cL_law 978 = .ok (.invokevirtual 95, 3) := by decide +kernel
theorem dL_law_981 : decode cL_law 981 = .ok (.iload 18, 2) := by decide +kernel
theorem dL_law_983 : decode cL_law 983 = .ok (.isub, 1) := by decide +kernel
theorem dL_law_984 : decode cL_law 984 = .ok (.if_icmp .eq 5, 3) := by decide +kernel
theorem dL_law_987 : decode cL_law 987 = .ok (.iconst 0, 1) := by decide +kernel
theorem dL_law_988 : decode cL_law 988 = .ok (.ireturn, 1) := by decide +kernel
theorem dL_law_989 : decode cL_law 989 = .ok (.iinc 17 1, 3) := by decide +kernel
theorem dL_law_992 : decode cL_law 992 = .ok (.goto (-107), 3) := by decide +kernel
theorem dL_law_995 : decode cL_law 995 = .ok (.aload_n 1, 1) := by decide +kernel
theorem dL_law_996 : decode cL_law 996 = .ok (.iload 9, 2) := by decide +kernel
theorem dL_law_998 : decode cL_law 998 = .ok (.invokevirtual 174, 3) := by decide +kernel
theorem dL_law_1001 : decode cL_law 1001 = .ok (.iload 13, 2) := by decide +kernel
theorem dL_law_1003 : decode cL_law 1003 = .ok (.if_icmp .ne 28, 3) := by decide +kernel
theorem dL_law_1006 : decode cL_law 1006 = .ok (.aload_n 1, 1) := by decide +kernel
theorem dL_law_1007 : decode cL_law 1007 = .ok (.iload 9, 2) := by decide +kernel
theorem dL_law_1009 : decode cL_law 1009 = .ok (.iload 10, 2) := by decide +kernel
theorem dL_law_1011 : decode cL_law 1011 = .ok (.invokevirtual 153, 3) := by decide +kernel
theorem dL_law_1014 : decode cL_law 1014 = .ok (.iload 11, 2) := by decide +kernel
theorem dL_law_1016 : decode cL_law 1016 = .ok (.if_icmp .ne 15, 3) := by decide +kernel
theorem dL_law_1019 : decode cL_law 1019 = .ok (.aload_n 1, 1) := by decide +kernel
theorem dL_law_1020 : decode cL_law 1020 = .ok (.invokevirtual 168, 3) := by decide +kernel
theorem dL_law_1023 : decode cL_law 1023 = .ok (.iload 16, 2) := by decide +kernel
theorem dL_law_1025 : decode cL_law 1025 = .ok (.bipush 100, 2) := by decide +kernel
theorem dL_law_1027 : decode cL_law 1027 = .ok (.iadd, 1) := by decide +kernel
theorem dL_law_1028 : decode cL_law 1028 = .ok (.if_icmp .eq 5, 3) := by decide +kernel
theorem dL_law_1031 : decode cL_law 1031 = .ok (.iconst 0, 1) := by decide +kernel
theorem dL_law_1032 : decode cL_law 1032 = .ok (.ireturn, 1) := by decide +kernel
theorem dL_law_1033 : decode cL_law 1033 = .ok (.iinc 3 1, 3) := by decide +kernel
theorem dL_law_1036 : decode cL_law 1036 = .ok (.goto (-1014), 3) := by decide +kernel
theorem dL_law_1039 : decode cL_law 1039 = .ok (.aload_n 2, 1) := by decide +kernel
theorem dL_law_1040 : decode cL_law 1040 = .ok (.aload_n 1, 1) := by decide +kernel
theorem dL_law_1041 : decode cL_law 1041 = .ok (.invokevirtual 206, 3) := by decide +kernel
theorem dL_law_1044 : decode cL_law 1044 = .ok (.ireturn, 1) := by decide +kernel
