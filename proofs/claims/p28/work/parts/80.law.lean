/-! ===== the law: its body (printed by wip/p28/mk80.py) ===== -/
theorem dl_0 : decode code 0 = .ok ((.invokestatic 170), 3) := by decide +kernel
theorem dl_3 : decode code 3 = .ok ((.ifCond .eq 9), 3) := by decide +kernel
theorem dl_6 : decode code 6 = .ok ((.invokestatic 174), 3) := by decide +kernel
theorem dl_9 : decode code 9 = .ok ((.ifCond .ne 5), 3) := by decide +kernel
theorem dl_12 : decode code 12 = .ok ((.iconst 0), 1) := by decide +kernel
theorem dl_13 : decode code 13 = .ok (.ireturn, 1) := by decide +kernel
theorem dl_14 : decode code 14 = .ok ((.new 14), 3) := by decide +kernel
theorem dl_17 : decode code 17 = .ok (.dup, 1) := by decide +kernel
theorem dl_18 : decode code 18 = .ok ((.invokespecial 98), 3) := by decide +kernel
theorem dl_21 : decode code 21 = .ok ((.astore_n 1), 1) := by decide +kernel
theorem dl_22 : decode code 22 = .ok ((.bipush 64), 2) := by decide +kernel
theorem dl_24 : decode code 24 = .ok ((.newarray .long), 2) := by decide +kernel
theorem dl_26 : decode code 26 = .ok ((.astore_n 2), 1) := by decide +kernel
theorem dl_27 : decode code 27 = .ok ((.iconst 0), 1) := by decide +kernel
theorem dl_28 : decode code 28 = .ok ((.istore_n 3), 1) := by decide +kernel
theorem dl_29 : decode code 29 = .ok ((.aload_n 1), 1) := by decide +kernel
theorem dl_30 : decode code 30 = .ok ((.iconst 5), 1) := by decide +kernel
theorem dl_31 : decode code 31 = .ok ((.iconst 0), 1) := by decide +kernel
theorem dl_32 : decode code 32 = .ok ((.invokevirtual 33), 3) := by decide +kernel
theorem dl_35 : decode code 35 = .ok ((.ifCond .ne 11), 3) := by decide +kernel
theorem dl_38 : decode code 38 = .ok ((.aload_n 1), 1) := by decide +kernel
theorem dl_39 : decode code 39 = .ok ((.iconst 0), 1) := by decide +kernel
theorem dl_40 : decode code 40 = .ok ((.invokevirtual 39), 3) := by decide +kernel
theorem dl_43 : decode code 43 = .ok ((.ifCond .eq 5), 3) := by decide +kernel
theorem dl_46 : decode code 46 = .ok ((.iconst 0), 1) := by decide +kernel
theorem dl_47 : decode code 47 = .ok (.ireturn, 1) := by decide +kernel
theorem dl_48 : decode code 48 = .ok ((.iconst 0), 1) := by decide +kernel
theorem dl_49 : decode code 49 = .ok ((.istore 4), 2) := by decide +kernel
theorem dl_51 : decode code 51 = .ok ((.iload 4), 2) := by decide +kernel
theorem dl_53 : decode code 53 = .ok ((.bipush 30), 2) := by decide +kernel
theorem dl_55 : decode code 55 = .ok ((.if_icmp .ge 374), 3) := by decide +kernel
theorem dl_58 : decode code 58 = .ok ((.aload_n 0), 1) := by decide +kernel
theorem dl_59 : decode code 59 = .ok ((.iload 4), 2) := by decide +kernel
theorem dl_61 : decode code 61 = .ok ((.invokestatic 177), 3) := by decide +kernel
theorem dl_64 : decode code 64 = .ok ((.istore 5), 2) := by decide +kernel
theorem dl_66 : decode code 66 = .ok ((.iload 4), 2) := by decide +kernel
theorem dl_68 : decode code 68 = .ok ((.iconst 4), 1) := by decide +kernel
theorem dl_69 : decode code 69 = .ok ((.if_icmp .ge 7), 3) := by decide +kernel
theorem dl_72 : decode code 72 = .ok ((.iconst 1), 1) := by decide +kernel
theorem dl_73 : decode code 73 = .ok ((.goto 10), 3) := by decide +kernel
theorem dl_76 : decode code 76 = .ok ((.iload 5), 2) := by decide +kernel
theorem dl_78 : decode code 78 = .ok ((.bipush 11), 2) := by decide +kernel
theorem dl_80 : decode code 80 = .ok ((.invokestatic 181), 3) := by decide +kernel
theorem dl_83 : decode code 83 = .ok ((.istore 6), 2) := by decide +kernel
theorem dl_85 : decode code 85 = .ok ((.aload_n 2), 1) := by decide +kernel
theorem dl_86 : decode code 86 = .ok ((.iload_n 3), 1) := by decide +kernel
theorem dl_87 : decode code 87 = .ok ((.aload_n 1), 1) := by decide +kernel
theorem dl_88 : decode code 88 = .ok ((.invokestatic 90), 3) := by decide +kernel
theorem dl_91 : decode code 91 = .ok (.lastore, 1) := by decide +kernel
theorem dl_92 : decode code 92 = .ok ((.aload_n 1), 1) := by decide +kernel
theorem dl_93 : decode code 93 = .ok ((.bipush 8), 2) := by decide +kernel
theorem dl_95 : decode code 95 = .ok ((.invokevirtual 13), 3) := by decide +kernel
theorem dl_98 : decode code 98 = .ok ((.istore 7), 2) := by decide +kernel
theorem dl_100 : decode code 100 = .ok ((.iload 5), 2) := by decide +kernel
theorem dl_102 : decode code 102 = .ok ((.iconst 4), 1) := by decide +kernel
theorem dl_103 : decode code 103 = .ok (.ishr, 1) := by decide +kernel
theorem dl_104 : decode code 104 = .ok ((.aload_n 1), 1) := by decide +kernel
theorem dl_105 : decode code 105 = .ok ((.iconst 4), 1) := by decide +kernel
theorem dl_106 : decode code 106 = .ok ((.invokevirtual 13), 3) := by decide +kernel
theorem dl_109 : decode code 109 = .ok ((.iconst 1), 1) := by decide +kernel
theorem dl_110 : decode code 110 = .ok (.iadd, 1) := by decide +kernel
theorem dl_111 : decode code 111 = .ok ((.invokestatic 181), 3) := by decide +kernel
theorem dl_114 : decode code 114 = .ok ((.istore 8), 2) := by decide +kernel
theorem dl_116 : decode code 116 = .ok ((.iload 5), 2) := by decide +kernel
theorem dl_118 : decode code 118 = .ok ((.bipush 9), 2) := by decide +kernel
theorem dl_120 : decode code 120 = .ok (.ishr, 1) := by decide +kernel
theorem dl_121 : decode code 121 = .ok ((.aload_n 1), 1) := by decide +kernel
theorem dl_122 : decode code 122 = .ok ((.iconst 4), 1) := by decide +kernel
theorem dl_123 : decode code 123 = .ok ((.invokevirtual 13), 3) := by decide +kernel
theorem dl_126 : decode code 126 = .ok ((.iconst 1), 1) := by decide +kernel
theorem dl_127 : decode code 127 = .ok (.iadd, 1) := by decide +kernel
theorem dl_128 : decode code 128 = .ok ((.invokestatic 181), 3) := by decide +kernel
theorem dl_131 : decode code 131 = .ok ((.istore 9), 2) := by decide +kernel
theorem dl_133 : decode code 133 = .ok ((.iload 5), 2) := by decide +kernel
theorem dl_135 : decode code 135 = .ok ((.bipush 14), 2) := by decide +kernel
theorem dl_137 : decode code 137 = .ok (.ishr, 1) := by decide +kernel
theorem dl_138 : decode code 138 = .ok ((.iconst 5), 1) := by decide +kernel
theorem dl_139 : decode code 139 = .ok ((.invokestatic 181), 3) := by decide +kernel
theorem dl_142 : decode code 142 = .ok ((.istore 10), 2) := by decide +kernel
theorem dl_144 : decode code 144 = .ok ((.iload 6), 2) := by decide +kernel
theorem dl_146 : decode code 146 = .ok ((.ifCond .ne 30), 3) := by decide +kernel
theorem dl_149 : decode code 149 = .ok ((.aload_n 1), 1) := by decide +kernel
theorem dl_150 : decode code 150 = .ok ((.iconst 1), 1) := by decide +kernel
theorem dl_151 : decode code 151 = .ok ((.iload 5), 2) := by decide +kernel
theorem dl_153 : decode code 153 = .ok ((.iconst 4), 1) := by decide +kernel
theorem dl_154 : decode code 154 = .ok (.ishr, 1) := by decide +kernel
theorem dl_155 : decode code 155 = .ok ((.bipush 51), 2) := by decide +kernel
theorem dl_157 : decode code 157 = .ok ((.invokestatic 181), 3) := by decide +kernel
theorem dl_160 : decode code 160 = .ok (.iadd, 1) := by decide +kernel
theorem dl_161 : decode code 161 = .ok ((.iload 5), 2) := by decide +kernel
theorem dl_163 : decode code 163 = .ok ((.bipush 10), 2) := by decide +kernel
theorem dl_165 : decode code 165 = .ok (.ishr, 1) := by decide +kernel
theorem dl_166 : decode code 166 = .ok ((.iconst 4), 1) := by decide +kernel
theorem dl_167 : decode code 167 = .ok ((.invokestatic 181), 3) := by decide +kernel
theorem dl_170 : decode code 170 = .ok ((.invokevirtual 33), 3) := by decide +kernel
theorem dl_173 : decode code 173 = .ok ((.goto 206), 3) := by decide +kernel
theorem dl_176 : decode code 176 = .ok ((.iload 6), 2) := by decide +kernel
theorem dl_178 : decode code 178 = .ok ((.iconst 3), 1) := by decide +kernel
theorem dl_179 : decode code 179 = .ok ((.if_icmp .ge 18), 3) := by decide +kernel
theorem dl_182 : decode code 182 = .ok ((.aload_n 1), 1) := by decide +kernel
theorem dl_183 : decode code 183 = .ok ((.iload 5), 2) := by decide +kernel
theorem dl_185 : decode code 185 = .ok ((.iconst 4), 1) := by decide +kernel
theorem dl_186 : decode code 186 = .ok (.ishr, 1) := by decide +kernel
theorem dl_187 : decode code 187 = .ok ((.iconst 5), 1) := by decide +kernel
theorem dl_188 : decode code 188 = .ok ((.invokestatic 181), 3) := by decide +kernel
theorem dl_191 : decode code 191 = .ok ((.invokevirtual 39), 3) := by decide +kernel
theorem dl_194 : decode code 194 = .ok ((.goto 185), 3) := by decide +kernel
theorem dl_197 : decode code 197 = .ok ((.iload 6), 2) := by decide +kernel
theorem dl_199 : decode code 199 = .ok ((.iconst 5), 1) := by decide +kernel
theorem dl_200 : decode code 200 = .ok ((.if_icmp .ge 23), 3) := by decide +kernel
theorem dl_203 : decode code 203 = .ok ((.aload_n 1), 1) := by decide +kernel
theorem dl_204 : decode code 204 = .ok ((.iload 8), 2) := by decide +kernel
theorem dl_206 : decode code 206 = .ok ((.iload 5), 2) := by decide +kernel
theorem dl_208 : decode code 208 = .ok ((.bipush 13), 2) := by decide +kernel
theorem dl_210 : decode code 210 = .ok (.ishr, 1) := by decide +kernel
theorem dl_211 : decode code 211 = .ok ((.iconst 2), 1) := by decide +kernel
theorem dl_212 : decode code 212 = .ok ((.invokestatic 181), 3) := by decide +kernel
theorem dl_215 : decode code 215 = .ok ((.iload 10), 2) := by decide +kernel
theorem dl_217 : decode code 217 = .ok ((.invokevirtual 42), 3) := by decide +kernel
theorem dl_220 : decode code 220 = .ok ((.goto 159), 3) := by decide +kernel
theorem dl_223 : decode code 223 = .ok ((.iload 6), 2) := by decide +kernel
theorem dl_225 : decode code 225 = .ok ((.iconst 5), 1) := by decide +kernel
theorem dl_226 : decode code 226 = .ok ((.if_icmp .ne 14), 3) := by decide +kernel
theorem dl_229 : decode code 229 = .ok ((.aload_n 1), 1) := by decide +kernel
theorem dl_230 : decode code 230 = .ok ((.iload 8), 2) := by decide +kernel
theorem dl_232 : decode code 232 = .ok ((.iload 10), 2) := by decide +kernel
theorem dl_234 : decode code 234 = .ok ((.invokevirtual 45), 3) := by decide +kernel
theorem dl_237 : decode code 237 = .ok ((.goto 142), 3) := by decide +kernel
theorem dl_240 : decode code 240 = .ok ((.iload 6), 2) := by decide +kernel
theorem dl_242 : decode code 242 = .ok ((.bipush 6), 2) := by decide +kernel
theorem dl_244 : decode code 244 = .ok ((.if_icmp .ne 30), 3) := by decide +kernel
theorem dl_247 : decode code 247 = .ok ((.aload_n 1), 1) := by decide +kernel
theorem dl_248 : decode code 248 = .ok ((.iload 8), 2) := by decide +kernel
theorem dl_250 : decode code 250 = .ok ((.iload 5), 2) := by decide +kernel
theorem dl_252 : decode code 252 = .ok ((.bipush 13), 2) := by decide +kernel
theorem dl_254 : decode code 254 = .ok (.ishr, 1) := by decide +kernel
theorem dl_255 : decode code 255 = .ok ((.iconst 2), 1) := by decide +kernel
theorem dl_256 : decode code 256 = .ok ((.invokestatic 181), 3) := by decide +kernel
theorem dl_259 : decode code 259 = .ok ((.iload 5), 2) := by decide +kernel
theorem dl_261 : decode code 261 = .ok ((.bipush 14), 2) := by decide +kernel
theorem dl_263 : decode code 263 = .ok (.ishr, 1) := by decide +kernel
theorem dl_264 : decode code 264 = .ok ((.iconst 4), 1) := by decide +kernel
theorem dl_265 : decode code 265 = .ok ((.invokestatic 181), 3) := by decide +kernel
theorem dl_268 : decode code 268 = .ok ((.invokevirtual 48), 3) := by decide +kernel
theorem dl_271 : decode code 271 = .ok ((.goto 108), 3) := by decide +kernel
theorem dl_274 : decode code 274 = .ok ((.iload 6), 2) := by decide +kernel
theorem dl_276 : decode code 276 = .ok ((.bipush 7), 2) := by decide +kernel
theorem dl_278 : decode code 278 = .ok ((.if_icmp .ne 21), 3) := by decide +kernel
theorem dl_281 : decode code 281 = .ok ((.aload_n 1), 1) := by decide +kernel
theorem dl_282 : decode code 282 = .ok ((.iload 8), 2) := by decide +kernel
theorem dl_284 : decode code 284 = .ok ((.iload 5), 2) := by decide +kernel
theorem dl_286 : decode code 286 = .ok ((.bipush 14), 2) := by decide +kernel
theorem dl_288 : decode code 288 = .ok (.ishr, 1) := by decide +kernel
theorem dl_289 : decode code 289 = .ok ((.iconst 4), 1) := by decide +kernel
theorem dl_290 : decode code 290 = .ok ((.invokestatic 181), 3) := by decide +kernel
theorem dl_293 : decode code 293 = .ok ((.invokevirtual 51), 3) := by decide +kernel
theorem dl_296 : decode code 296 = .ok ((.goto 83), 3) := by decide +kernel
theorem dl_299 : decode code 299 = .ok ((.iload 6), 2) := by decide +kernel
theorem dl_301 : decode code 301 = .ok ((.bipush 8), 2) := by decide +kernel
theorem dl_303 : decode code 303 = .ok ((.if_icmp .ne 28), 3) := by decide +kernel
theorem dl_306 : decode code 306 = .ok ((.aload_n 1), 1) := by decide +kernel
theorem dl_307 : decode code 307 = .ok ((.iload 8), 2) := by decide +kernel
theorem dl_309 : decode code 309 = .ok ((.iload 9), 2) := by decide +kernel
theorem dl_311 : decode code 311 = .ok ((.iload 5), 2) := by decide +kernel
theorem dl_313 : decode code 313 = .ok ((.bipush 14), 2) := by decide +kernel
theorem dl_315 : decode code 315 = .ok (.ishr, 1) := by decide +kernel
theorem dl_316 : decode code 316 = .ok ((.sipush 150), 3) := by decide +kernel
theorem dl_319 : decode code 319 = .ok ((.invokestatic 181), 3) := by decide +kernel
theorem dl_322 : decode code 322 = .ok ((.bipush 75), 2) := by decide +kernel
theorem dl_324 : decode code 324 = .ok (.isub, 1) := by decide +kernel
theorem dl_325 : decode code 325 = .ok ((.invokevirtual 55), 3) := by decide +kernel
theorem dl_328 : decode code 328 = .ok ((.goto 51), 3) := by decide +kernel
theorem dl_331 : decode code 331 = .ok ((.iload 6), 2) := by decide +kernel
theorem dl_333 : decode code 333 = .ok ((.bipush 9), 2) := by decide +kernel
theorem dl_335 : decode code 335 = .ok ((.if_icmp .ne 29), 3) := by decide +kernel
theorem dl_338 : decode code 338 = .ok ((.aload_n 1), 1) := by decide +kernel
theorem dl_339 : decode code 339 = .ok ((.iload 5), 2) := by decide +kernel
theorem dl_341 : decode code 341 = .ok ((.iconst 4), 1) := by decide +kernel
theorem dl_342 : decode code 342 = .ok (.ishr, 1) := by decide +kernel
theorem dl_343 : decode code 343 = .ok ((.iconst 4), 1) := by decide +kernel
theorem dl_344 : decode code 344 = .ok ((.invokestatic 181), 3) := by decide +kernel
theorem dl_347 : decode code 347 = .ok ((.iload 5), 2) := by decide +kernel
theorem dl_349 : decode code 349 = .ok ((.bipush 6), 2) := by decide +kernel
theorem dl_351 : decode code 351 = .ok (.ishr, 1) := by decide +kernel
theorem dl_352 : decode code 352 = .ok ((.sipush 10050), 3) := by decide +kernel
theorem dl_355 : decode code 355 = .ok ((.invokestatic 181), 3) := by decide +kernel
theorem dl_358 : decode code 358 = .ok ((.invokevirtual 61), 3) := by decide +kernel
theorem dl_361 : decode code 361 = .ok ((.goto 18), 3) := by decide +kernel
theorem dl_364 : decode code 364 = .ok ((.aload_n 1), 1) := by decide +kernel
theorem dl_365 : decode code 365 = .ok ((.iload 8), 2) := by decide +kernel
theorem dl_367 : decode code 367 = .ok ((.ifCond .ne 7), 3) := by decide +kernel
theorem dl_370 : decode code 370 = .ok ((.iconst (-1)), 1) := by decide +kernel
theorem dl_371 : decode code 371 = .ok ((.goto 5), 3) := by decide +kernel
theorem dl_374 : decode code 374 = .ok ((.iload 8), 2) := by decide +kernel
theorem dl_376 : decode code 376 = .ok ((.invokevirtual 58), 3) := by decide +kernel
theorem dl_379 : decode code 379 = .ok ((.istore 11), 2) := by decide +kernel
theorem dl_381 : decode code 381 = .ok ((.iload 11), 2) := by decide +kernel
theorem dl_383 : decode code 383 = .ok ((.ifCond .ge 27), 3) := by decide +kernel
theorem dl_386 : decode code 386 = .ok ((.aload_n 1), 1) := by decide +kernel
theorem dl_387 : decode code 387 = .ok ((.bipush 8), 2) := by decide +kernel
theorem dl_389 : decode code 389 = .ok ((.invokevirtual 13), 3) := by decide +kernel
theorem dl_392 : decode code 392 = .ok ((.iload 7), 2) := by decide +kernel
theorem dl_394 : decode code 394 = .ok ((.if_icmp .ne 14), 3) := by decide +kernel
theorem dl_397 : decode code 397 = .ok ((.aload_n 1), 1) := by decide +kernel
theorem dl_398 : decode code 398 = .ok ((.invokestatic 90), 3) := by decide +kernel
theorem dl_401 : decode code 401 = .ok ((.aload_n 2), 1) := by decide +kernel
theorem dl_402 : decode code 402 = .ok ((.iload_n 3), 1) := by decide +kernel
theorem dl_403 : decode code 403 = .ok (.laload, 1) := by decide +kernel
theorem dl_404 : decode code 404 = .ok (.lcmp, 1) := by decide +kernel
theorem dl_405 : decode code 405 = .ok ((.ifCond .eq 5), 3) := by decide +kernel
theorem dl_408 : decode code 408 = .ok ((.iconst 0), 1) := by decide +kernel
theorem dl_409 : decode code 409 = .ok (.ireturn, 1) := by decide +kernel
theorem dl_410 : decode code 410 = .ok ((.iload_n 3), 1) := by decide +kernel
theorem dl_411 : decode code 411 = .ok ((.iload 11), 2) := by decide +kernel
theorem dl_413 : decode code 413 = .ok ((.ifCond .ge 7), 3) := by decide +kernel
theorem dl_416 : decode code 416 = .ok ((.iconst 0), 1) := by decide +kernel
theorem dl_417 : decode code 417 = .ok ((.goto 4), 3) := by decide +kernel
theorem dl_420 : decode code 420 = .ok ((.iconst 1), 1) := by decide +kernel
theorem dl_421 : decode code 421 = .ok (.iadd, 1) := by decide +kernel
theorem dl_422 : decode code 422 = .ok ((.istore_n 3), 1) := by decide +kernel
theorem dl_423 : decode code 423 = .ok ((.iinc 4 1), 3) := by decide +kernel
theorem dl_426 : decode code 426 = .ok ((.goto (-375)), 3) := by decide +kernel
theorem dl_429 : decode code 429 = .ok ((.aload_n 2), 1) := by decide +kernel
theorem dl_430 : decode code 430 = .ok ((.iload_n 3), 1) := by decide +kernel
theorem dl_431 : decode code 431 = .ok ((.aload_n 1), 1) := by decide +kernel
theorem dl_432 : decode code 432 = .ok ((.invokestatic 90), 3) := by decide +kernel
theorem dl_435 : decode code 435 = .ok (.lastore, 1) := by decide +kernel
theorem dl_436 : decode code 436 = .ok ((.aload_n 1), 1) := by decide +kernel
theorem dl_437 : decode code 437 = .ok ((.iconst 0), 1) := by decide +kernel
theorem dl_438 : decode code 438 = .ok ((.iconst 1), 1) := by decide +kernel
theorem dl_439 : decode code 439 = .ok ((.invokevirtual 64), 3) := by decide +kernel
theorem dl_442 : decode code 442 = .ok ((.ifCond .lt 12), 3) := by decide +kernel
theorem dl_445 : decode code 445 = .ok ((.aload_n 1), 1) := by decide +kernel
theorem dl_446 : decode code 446 = .ok ((.invokestatic 107), 3) := by decide +kernel
theorem dl_449 : decode code 449 = .ok ((.ifCond .ne 5), 3) := by decide +kernel
theorem dl_452 : decode code 452 = .ok ((.iconst 0), 1) := by decide +kernel
theorem dl_453 : decode code 453 = .ok (.ireturn, 1) := by decide +kernel
theorem dl_454 : decode code 454 = .ok ((.iconst 0), 1) := by decide +kernel
theorem dl_455 : decode code 455 = .ok ((.istore 4), 2) := by decide +kernel
theorem dl_457 : decode code 457 = .ok ((.aload_n 1), 1) := by decide +kernel
theorem dl_458 : decode code 458 = .ok ((.bipush 8), 2) := by decide +kernel
theorem dl_460 : decode code 460 = .ok ((.invokevirtual 13), 3) := by decide +kernel
theorem dl_463 : decode code 463 = .ok ((.ifCond .le 56), 3) := by decide +kernel
theorem dl_466 : decode code 466 = .ok ((.iload 4), 2) := by decide +kernel
theorem dl_468 : decode code 468 = .ok ((.iload_n 3), 1) := by decide +kernel
theorem dl_469 : decode code 469 = .ok ((.if_icmp .ge 50), 3) := by decide +kernel
theorem dl_472 : decode code 472 = .ok ((.aload_n 1), 1) := by decide +kernel
theorem dl_473 : decode code 473 = .ok ((.bipush 8), 2) := by decide +kernel
theorem dl_475 : decode code 475 = .ok ((.invokevirtual 13), 3) := by decide +kernel
theorem dl_478 : decode code 478 = .ok ((.istore 5), 2) := by decide +kernel
theorem dl_480 : decode code 480 = .ok ((.iload 4), 2) := by decide +kernel
theorem dl_482 : decode code 482 = .ok ((.iconst 3), 1) := by decide +kernel
theorem dl_483 : decode code 483 = .ok ((.if_icmp .gt 28), 3) := by decide +kernel
theorem dl_486 : decode code 486 = .ok ((.aload_n 1), 1) := by decide +kernel
theorem dl_487 : decode code 487 = .ok ((.invokestatic 90), 3) := by decide +kernel
theorem dl_490 : decode code 490 = .ok ((.aload_n 2), 1) := by decide +kernel
theorem dl_491 : decode code 491 = .ok ((.iload_n 3), 1) := by decide +kernel
theorem dl_492 : decode code 492 = .ok ((.iload 4), 2) := by decide +kernel
theorem dl_494 : decode code 494 = .ok (.isub, 1) := by decide +kernel
theorem dl_495 : decode code 495 = .ok (.laload, 1) := by decide +kernel
theorem dl_496 : decode code 496 = .ok (.lcmp, 1) := by decide +kernel
theorem dl_497 : decode code 497 = .ok ((.ifCond .ne 14), 3) := by decide +kernel
theorem dl_500 : decode code 500 = .ok ((.aload_n 1), 1) := by decide +kernel
theorem dl_501 : decode code 501 = .ok ((.invokevirtual 99), 3) := by decide +kernel
theorem dl_504 : decode code 504 = .ok ((.iload 5), 2) := by decide +kernel
theorem dl_506 : decode code 506 = .ok ((.iconst 1), 1) := by decide +kernel
theorem dl_507 : decode code 507 = .ok (.isub, 1) := by decide +kernel
theorem dl_508 : decode code 508 = .ok ((.if_icmp .eq 5), 3) := by decide +kernel
theorem dl_511 : decode code 511 = .ok ((.iconst 0), 1) := by decide +kernel
theorem dl_512 : decode code 512 = .ok (.ireturn, 1) := by decide +kernel
theorem dl_513 : decode code 513 = .ok ((.iinc 4 1), 3) := by decide +kernel
theorem dl_516 : decode code 516 = .ok ((.goto (-59)), 3) := by decide +kernel
theorem dl_519 : decode code 519 = .ok ((.aload_n 1), 1) := by decide +kernel
theorem dl_520 : decode code 520 = .ok ((.bipush 8), 2) := by decide +kernel
theorem dl_522 : decode code 522 = .ok ((.invokevirtual 13), 3) := by decide +kernel
theorem dl_525 : decode code 525 = .ok ((.ifCond .gt 25), 3) := by decide +kernel
theorem dl_528 : decode code 528 = .ok ((.aload_n 1), 1) := by decide +kernel
theorem dl_529 : decode code 529 = .ok ((.invokevirtual 99), 3) := by decide +kernel
theorem dl_532 : decode code 532 = .ok ((.ldc 54), 2) := by decide +kernel
theorem dl_534 : decode code 534 = .ok ((.if_icmp .ne 20), 3) := by decide +kernel
theorem dl_537 : decode code 537 = .ok ((.aload_n 1), 1) := by decide +kernel
theorem dl_538 : decode code 538 = .ok ((.invokestatic 90), 3) := by decide +kernel
theorem dl_541 : decode code 541 = .ok ((.aload_n 2), 1) := by decide +kernel
theorem dl_542 : decode code 542 = .ok ((.iload_n 3), 1) := by decide +kernel
theorem dl_543 : decode code 543 = .ok ((.iconst 4), 1) := by decide +kernel
theorem dl_544 : decode code 544 = .ok (.isub, 1) := by decide +kernel
theorem dl_545 : decode code 545 = .ok (.laload, 1) := by decide +kernel
theorem dl_546 : decode code 546 = .ok (.lcmp, 1) := by decide +kernel
theorem dl_547 : decode code 547 = .ok ((.ifCond .ne 7), 3) := by decide +kernel
theorem dl_550 : decode code 550 = .ok ((.iconst 1), 1) := by decide +kernel
theorem dl_551 : decode code 551 = .ok ((.goto 4), 3) := by decide +kernel
theorem dl_554 : decode code 554 = .ok ((.iconst 0), 1) := by decide +kernel
theorem dl_555 : decode code 555 = .ok (.ireturn, 1) := by decide +kernel
theorem ck_170 : gx_ckS 170 yn_Law_books 0 769 770 8 = true := by decide +kernel
theorem ck_174 : gx_ckS 174 yn_Law_texts 0 779 780 8 = true := by decide +kernel
theorem ck_98 : gx_ckI 98 yn_Fair_init 21 22 9 = true := by decide +kernel
theorem ck_33 : gx_ckV 33 yn_Fair_name 2 240 241 242 9 = true := by decide +kernel
theorem ck_39 : gx_ckV 39 yn_Fair_leaf 1 329 330 331 9 = true := by decide +kernel
theorem ck_177 : gx_ckS 177 yn_Law_drawn 2 577 578 8 = true := by decide +kernel
theorem ck_181 : gx_ckS 181 yn_Law_part 2 573 574 8 = true := by decide +kernel
theorem ck_90 : gx_ckS 90 yn_Law_seen 1 581 582 8 = true := by decide +kernel
theorem ck_13 : gx_ckV 13 yn_Fair_count 1 523 524 525 9 = true := by decide +kernel
theorem ck_42 : gx_ckV 42 yn_Fair_sign 3 344 345 346 9 = true := by decide +kernel
theorem ck_45 : gx_ckV 45 yn_Fair_over 2 405 406 407 9 = true := by decide +kernel
theorem ck_48 : gx_ckV 48 yn_Fair_dedicate 3 429 430 431 9 = true := by decide +kernel
theorem ck_51 : gx_ckV 51 yn_Fair_move 2 442 443 444 9 = true := by decide +kernel
theorem ck_55 : gx_ckV 55 yn_Fair_trade 3 469 470 471 9 = true := by decide +kernel
theorem ck_61 : gx_ckV 61 yn_Fair_coins 2 506 507 508 9 = true := by decide +kernel
theorem ck_58 : gx_ckV 58 yn_Fair_tear 1 497 498 499 9 = true := by decide +kernel
theorem ck_64 : gx_ckV 64 yn_Fair_leafOf 2 514 515 516 9 = true := by decide +kernel
theorem ck_107 : gx_ckS 107 yn_Law_refused 1 647 648 8 = true := by decide +kernel
theorem ck_99 : gx_ckV 99 yn_Fair_undo 0 564 565 566 9 = true := by decide +kernel
theorem ck_new : (ab_w 19 (.classLink "FairBooksLaw" 14 (ab_cn 7)) && (ab_w 20 (.instantiable (ab_cn 7) (ab_nf 7)) && ab_w 9 (.initialized (ab_cn 7)))) = true := by decide +kernel
theorem ck_ldc : lw_w 654 (.constant "FairBooksLaw" 54 (Int32.ofInt (-1000002))) = true := by decide +kernel
section
variable {p : Program} {l : Launch} {e : Env} {s : State} {m : MethodId} {below : List Frame} {meth : Method} {c : Code} {b L : Nat} {xs : Nat → Int32} {D : va_G} {cA cL : ClassId} {B : Nat} {Z : State → Prop} {H : Heap} {locs : List Loc} {pc : Nat} {ls : Array Slot} {st : List Value} {w w' : Wd} {g : Nat → Int64}
theorem gx_last {cc : ByteArray} {R : Room} {args : Array Value} {cells slots N q a : Nat} {x : Int64} (hx1 : p.tables.exec = Jvm.exec) (hb1 : c.code = cc) (hKL : va_K D vwCl [(cL, .long)] s) (P : va_P D vwCl [(q, .inl (cL, N, .inr (.inl g)))] H) (ha : a < N) (hN : N ≤ 1000) (hdec : decode cc pc = .ok (.lastore, 1))
    (hg : ∀ H1 : Heap, va_P D vwCl [(q, .inl (cL, N, .inr (.inl (vp_updL g a x))))] H1 → H1.size = H.size → (∀ r : Nat, r ≠ q → H1[r]? = H[r]?) → W p l e R s m args below meth c H1 (locs ++ [⟨q, a⟩]) cells slots Z (F0 m (pc + 1) ls st)) : W p l e R s m args below meth c H locs cells slots Z (F0 m pc ls (.long x :: .int (Int32.ofInt a) :: .ref q :: st)) := by
  have ei : (Int32.ofInt (a : Int)).toNatClampNeg = a := by rw [ii_cl (by omega) (by omega), Int.toNat_natCast]
  have hin : vp_in (Int32.ofInt (a : Int)) N := (ii_in (by omega) (by omega) (by omega)).mpr trivial
  refine W.last hx1 hb1 (P 0 _ rfl) ((hKL.2 0 _ rfl).1 N (fun j => .long (g j))) (fun q => by cases q) (by show ¬ (Int32.ofInt (a : Int) < 0 ∨ (arrV _ _ _).slots.size ≤ _); rw [arrV_size]; exact hin) rfl rfl hdec fun H1 e1 z1 oq => ?_
  rw [ei] at e1 ⊢
  refine hg H1 ?_ z1 oq
  intro j q hq
  have hj : j < 1 := (List.getElem?_eq_some_iff.mp hq).1
  rw [show j = 0 by omega] at hq
  cases hq
  show H1[_]? = some (vp_cell _ _)
  rw [e1]
  rw [vp_cell_l, vp_cell_l, arrV_store]
  congr 2
  funext q
  by_cases hq : q = a
  · subst hq
    simp [updV, vp_updL]
  · simp [updV, vp_updL, hq]
theorem lw_last {a : Nat} {x : Int64} (C : lw_Cx p s m meth c b L xs D cA cL) (hdec : decode code pc = .ok (.lastore, 1)) (ha : a < 64) (hV : lw_V s D cA cL B w g H locs)
    (hg : ∀ H' locs', lw_V s D cA cL B w (vp_updL g a x) H' locs' → W p l e room_1 s m #[Value.ref b] below meth c H' locs' 600000 7302250 Z (F0 m (pc + 1) ls st)) : W p l e room_1 s m #[Value.ref b] below meth c H locs 600000 7302250 Z (F0 m pc ls (.long x :: .int (Int32.ofInt a) :: .ref (B + 192) :: st)) := by
  obtain ⟨⟨h, V, w0⟩, P, S, hB⟩ := hV
  obtain ⟨⟨hx1, hb1, hml, hown, hts, hnw, hK⟩, hret, hKL, hX, hbl, hlk, hts2, hcL⟩ := C
  refine gx_last hx1 hb1 hKL P ha (by omega) hdec (fun H1 P1 z1 oq => ?_)
  have hB0 : H.size = B + 192 + 1 := w0.1.2
  refine hg H1 _ ⟨⟨h, V, ⟨w0.1.1, z1.trans w0.1.2⟩, fun k hk => (w0.2 k hk).kept (oq _ (by show B + k ≠ B + 192; omega))⟩, P1, ⟨?_, fun q h1 h2 => ?_, fun q hq => ?_⟩, hB⟩
  · rw [z1]; exact S.1
  · exact (oq q (by have := S.1; omega)).trans (S.2.1 q h1 h2)
  · rcases List.mem_append.mp hq with z | z
    · exact S.2.2 q z
    · rw [List.mem_singleton] at z
      subst z
      show s.heap.size ≤ B + 192
      omega
theorem lw_lald {a : Nat} (C : lw_Cx p s m meth c b L xs D cA cL) (hdec : decode code pc = .ok (.laload, 1)) (ha : a < 64) (hV : lw_V s D cA cL B w g H locs)
    (hg : W p l e room_1 s m #[Value.ref b] below meth c H locs 600000 7302250 Z (F0 m (pc + 1) ls (.long (g a) :: st))) : W p l e room_1 s m #[Value.ref b] below meth c H locs 600000 7302250 Z (F0 m pc ls (.int (Int32.ofInt a) :: .ref (B + 192) :: st)) := by
  obtain ⟨⟨h, V, w0⟩, P, S, hB⟩ := hV
  obtain ⟨⟨hx1, hb1, hml, hown, hts, hnw, hK⟩, hret, hKL, hX, hbl, hlk, hts2, hcL⟩ := C
  refine va_lald hx1 hb1 hKL P 0 0 rfl rfl ((ii_in (by omega) (by omega) (by omega)).mpr trivial) hdec ?_
  rw [ii_cl (by omega) (by omega), Int.toNat_natCast]
  exact hg
/-- what was, newest first; what of it is recorded; the sums -/
def lw_J (w : Wd) (U : List St) (a : Nat) (g : Nat → Int64) (M : Int) : Prop := U.length = a + 2 ∧ w.2.1 = U.take 4 ∧ w.2.2 = [] ∧ (∀ i, i < a → ∃ t, U[a - 1 - i]? = some t ∧ g i = sn t) ∧ lw_I w M
theorem lw_J.go {U : List St} {a : Nat} {M : Int} {r : Int32 × St} (J : lw_J w U a g M) (hr : op_r M w.1 r) (hp : ¬ r.1 < Int32.ofInt 0) : lw_J (wd_do w r) (w.1 :: U) (a + 1) (vp_updL g a (sn w.1)) (M + 61) := by
  obtain ⟨j1, j2, j3, j4, j5⟩ := J
  refine ⟨by rw [List.length_cons, j1], ?_, j3, fun i hi => ?_, j5.op hr (by omega)⟩
  · show (if r.1 < Int32.ofInt 0 then w.2.1 else hi_keep w.1 w.2.1) = _
    rw [if_neg hp, j2]
    unfold hi_keep
    rw [List.take_succ_cons, List.take_succ_cons, List.take_take]
    rfl
  · by_cases hia : i = a
    · subst hia
      refine ⟨w.1, ?_, by simp [vp_updL]⟩
      rw [show i + 1 - 1 - i = 0 by omega]
      rfl
    · obtain ⟨t, t1, t2⟩ := j4 i (by omega)
      refine ⟨t, ?_, ?_⟩
      · rw [show a + 1 - 1 - i = (a - 1 - i) + 1 by omega]
        exact t1
      · rw [← t2]
        unfold vp_updL
        rw [if_neg hia]
theorem lw_J.stay {U : List St} {a : Nat} {M : Int} (J : lw_J w U a g M) : lw_J w U a (vp_updL g a (sn w.1)) (M + 61) := by
  obtain ⟨j1, j2, j3, j4, j5⟩ := J
  refine ⟨j1, j2, j3, fun i hi => ?_, j5.up (by omega)⟩
  obtain ⟨t, t1, t2⟩ := j4 i hi
  refine ⟨t, t1, ?_⟩
  rw [← t2]
  unfold vp_updL
  rw [if_neg (by omega)]
theorem wd_same {r : Int32 × St} {M : Int} (hr : op_r M w.1 r) (hM : M ≤ 900000) (hn : r.1 < Int32.ofInt 0) : wd_do w r = w := by
  rcases hr with ⟨⟨z, z0, z1, ez⟩, -⟩ | ⟨h, -⟩
  · exfalso
    rw [ez, ii_lt (by omega) (by omega) (by omega) (by omega)] at hn
    omega
  · unfold wd_do
    rw [if_pos hn, h]
abbrev lw_L (b B a k : Nat) : List (Nat × Value) := [(4, .int (Int32.ofInt (k : Int))), (3, .int (Int32.ofInt (a : Int))), (2, .ref (B + 192)), (1, .ref (B + 0)), (0, .ref b)]
theorem qa_ev {w : Wd} : qa_count w 4 = Int32.ofInt w.1.2.2.2.2 := rfl
theorem qa_hi {w : Wd} : qa_count w 8 = Int32.ofInt w.2.1.length := rfl
theorem lt_z {x : Int32} : (0 ≤ x) ↔ ¬ x < Int32.ofInt 0 := by
  rw [ii_0, Int32.le_iff_toInt_le, Int32.lt_iff_toInt_lt]
  omega
set_option maxHeartbeats 4000000 in
set_option maxRecDepth 100000 in
theorem lw_379 {k a : Nat} {U : List St} {M : Int} {r : Int32 × St} {x5 x6 x8 x9 x10 : Int32} (C : lw_Cx p s m meth c b L xs D cA cL) (J : lw_J w U a g M) (m0 : 0 ≤ M) (m1 : M ≤ 900000) (hr : op_r M w.1 r) (ha : a < 64) (hk : k < 100)
    (nx : ∀ (a' : Nat) (U' : List St) (w' : Wd) (g' : Nat → Int64) (H : Heap) (locs : List Loc) (ls : Array Slot), a' ≤ a + 1 → lw_J w' U' a' g' (M + 61) → lw_V s D cA cL B w' g' H locs → lv_has ls 12 (lw_L b B a' (k + 1)) → W p l e room_1 s m #[Value.ref b] below meth c H locs 600000 7302250 Z (F0 m 51 ls []))
    (hV : lw_V s D cA cL B (wd_do w r) (vp_updL g a (sn w.1)) H locs) (hl : lv_has ls 12 [(10, .int x10), (9, .int x9), (8, .int x8), (7, .int (qa_count w 8)), (6, .int x6), (5, .int x5), (4, .int (Int32.ofInt (k : Int))), (3, .int (Int32.ofInt (a : Int))), (2, .ref (B + 192)), (1, .ref (B + 0)), (0, .ref b)]) : W p l e room_1 s m #[Value.ref b] below meth c H locs 600000 7302250 Z (F0 m 379 ls [.int r.1]) := by
  obtain ⟨⟨hx1, hb1, hml, hown, hts, hnw, hK⟩, hret, hKL, hX, hbl, hlk, hts2, hcL⟩ := id C
  have J0 := J
  obtain ⟨j1, j2, j3, j4, I⟩ := J
  refine lv_istore (lv' := [(11, .int r.1), (10, .int x10), (9, .int x9), (8, .int x8), (7, .int (qa_count w 8)), (6, .int x6), (5, .int x5), (4, .int (Int32.ofInt (k : Int))), (3, .int (Int32.ofInt (a : Int))), (2, .ref (B + 192)), (1, .ref (B + 0)), (0, .ref b)]) hx1 hb1 dl_379 hl (by decide) rfl (fun ls hl => ?_)
  refine lv_iload hx1 hb1 dl_381 (lv_at hl 0 rfl) ?_
  have e423 : ∀ (z : Int) (a' : Nat) (U' : List St) (w' : Wd) (g' : Nat → Int64) (H : Heap) (locs : List Loc), (a : Int) + z = (a' : Int) → a' ≤ a + 1 → lw_J w' U' a' g' (M + 61) → lw_V s D cA cL B w' g' H locs → W p l e room_1 s m #[Value.ref b] below meth c H locs 600000 7302250 Z (F0 m 421 ls [.int (Int32.ofInt z), .int (Int32.ofInt (a : Int))]) := by
    intro z a' U' w' g' H locs hz ha' J' hV'
    refine lv_iadd hx1 hb1 dl_421 ?_
    rw [ii_add, hz]
    refine lv_istore_n (lv' := [(3, (.int (Int32.ofInt (a' : Int)))), (11, .int r.1), (10, .int x10), (9, .int x9), (8, .int x8), (7, .int (qa_count w 8)), (6, .int x6), (5, .int x5), (4, .int (Int32.ofInt (k : Int))), (2, .ref (B + 192)), (1, .ref (B + 0)), (0, .ref b)]) hx1 hb1 dl_422 rfl hl (by decide) rfl (fun ls hl => ?_)
    refine lv_iinc (v := Int32.ofInt ((k + 1 : Nat) : Int)) (lv' := [(4, .int (Int32.ofInt ((k + 1 : Nat) : Int))), (3, (.int (Int32.ofInt (a' : Int)))), (11, .int r.1), (10, .int x10), (9, .int x9), (8, .int x8), (7, .int (qa_count w 8)), (6, .int x6), (5, .int x5), (2, .ref (B + 192)), (1, .ref (B + 0)), (0, .ref b)]) hx1 hb1 dl_423 hl (k := 8) rfl (by rw [ii_add]; rfl) (by decide) rfl (fun ls hl => ?_)
    refine lv_goto (tgt := 51) hx1 hb1 dl_426 (by decide) ?_
    exact nx a' U' w' g' H locs ls ha' J' hV' (lv_sub hl [0, 1, 9, 10, 11] rfl)
  refine lv_if_ge (tgt := 410) hx1 hb1 dl_383 (by decide) (fun q => ?_) (fun q => ?_)
  · have hp : ¬ r.1 < Int32.ofInt 0 := lt_z.mp q
    refine lv_iload_n hx1 hb1 dl_410 rfl (lv_at hl 8 rfl) ?_
    refine lv_iload hx1 hb1 dl_411 (lv_at hl 0 rfl) ?_
    refine lv_if_ge (tgt := 420) hx1 hb1 dl_413 (by decide) (fun _ => ?_) (fun q2 => absurd q q2)
    refine lv_iconst (v := Int32.ofInt 1) hx1 hb1 dl_420 rfl ?_
    exact e423 1 (a + 1) (w.1 :: U) (wd_do w r) _ H locs (by omega) (Nat.le_refl _) (J0.go hr hp) hV
  · have hn : r.1 < Int32.ofInt 0 := Classical.not_not.mp (fun z => q (lt_z.mpr z))
    rw [wd_same hr m1 hn] at hV
    refine lv_aload_n hx1 hb1 dl_386 rfl (lv_at hl 10 rfl) ?_
    refine lv_bipush (v := Int32.ofInt 8) hx1 hb1 dl_387 (by decide) ?_
    refine lw_cv (d := 8) (as := [.int (Int32.ofInt 8)]) (v := .int (qa_count w 8)) (w' := w) C ck_13 dl_389 rfl (by decide) (fun h V => ab_C.up (fc_count V I.1 (by omega) (by omega) ⟨rfl, V⟩) (Nat.le_of_ble_eq_true rfl)) hV hl.1 (Nat.le_of_ble_eq_true rfl) (fun H locs hV => ?_)
    refine lv_iload hx1 hb1 dl_392 (lv_at hl 4 rfl) ?_
    refine lv_icmp_ne (tgt := 408) hx1 hb1 dl_394 (by decide) (fun z => absurd rfl z) (fun _ => ?_)
    refine lv_aload_n hx1 hb1 dl_397 rfl (lv_at hl 10 rfl) ?_
    refine lw_ct (d := 7) (as := [.ref 0]) (v := .long (sn w.1)) (w' := w) C ck_90 mc_l.2.1 dl_398 rfl (by decide) (fun h V => sp_Law_seen V I.1 ⟨rfl, V⟩) hV hl.1 (Nat.le_of_ble_eq_true rfl) (fun H locs hV => ?_)
    refine lv_aload_n hx1 hb1 dl_401 rfl (lv_at hl 9 rfl) ?_
    refine lv_iload_n hx1 hb1 dl_402 rfl (lv_at hl 8 rfl) ?_
    refine lw_lald C dl_403 ha hV ?_
    rw [show vp_updL g a (sn w.1) a = sn w.1 by simp [vp_updL]]
    refine W.lcmp hx1 hb1 dl_404 ?_
    rw [lg_self]
    refine lv_if_eq (tgt := 410) hx1 hb1 dl_405 (by decide) (fun _ => ?_) (fun z => absurd rfl z)
    refine lv_iload_n hx1 hb1 dl_410 rfl (lv_at hl 8 rfl) ?_
    refine lv_iload hx1 hb1 dl_411 (lv_at hl 0 rfl) ?_
    refine lv_if_ge (tgt := 420) hx1 hb1 dl_413 (by decide) (fun q2 => absurd q2 q) (fun _ => ?_)
    refine lv_iconst (v := Int32.ofInt 0) hx1 hb1 dl_416 rfl ?_
    refine lv_goto (tgt := 421) hx1 hb1 dl_417 (by decide) ?_
    exact e423 0 a U w _ H locs (by omega) (by omega) J0.stay hV
set_option maxHeartbeats 4000000 in
set_option maxRecDepth 100000 in
theorem lw_144 {k a : Nat} {U : List St} {M : Int} {x5 x6 x8 x9 x10 : Int32} (C : lw_Cx p s m meth c b L xs D cA cL) (J : lw_J w U a g M) (m0 : 0 ≤ M) (m1 : M ≤ 900000) (ha : a < 64) (hk : k < 100)
    (nx : ∀ (a' : Nat) (U' : List St) (w' : Wd) (g' : Nat → Int64) (H : Heap) (locs : List Loc) (ls : Array Slot), a' ≤ a + 1 → lw_J w' U' a' g' (M + 61) → lw_V s D cA cL B w' g' H locs → lv_has ls 12 (lw_L b B a' (k + 1)) → W p l e room_1 s m #[Value.ref b] below meth c H locs 600000 7302250 Z (F0 m 51 ls []))
    (hV : lw_V s D cA cL B w (vp_updL g a (sn w.1)) H locs) (hl : lv_has ls 12 [(10, .int x10), (9, .int x9), (8, .int x8), (7, .int (qa_count w 8)), (6, .int x6), (5, .int x5), (4, .int (Int32.ofInt (k : Int))), (3, .int (Int32.ofInt (a : Int))), (2, .ref (B + 192)), (1, .ref (B + 0)), (0, .ref b)]) : W p l e room_1 s m #[Value.ref b] below meth c H locs 600000 7302250 Z (F0 m 144 ls []) := by
  obtain ⟨⟨hx1, hb1, hml, hown, hts, hnw, hK⟩, hret, hKL, hX, hbl, hlk, hts2, hcL⟩ := id C
  have I := J.2.2.2.2
  have fin : ∀ (r : Int32 × St) (H : Heap) (locs : List Loc), op_r M w.1 r → lw_V s D cA cL B (wd_do w r) (vp_updL g a (sn w.1)) H locs → W p l e room_1 s m #[Value.ref b] below meth c H locs 600000 7302250 Z (F0 m 379 ls [.int r.1]) := fun r H locs hr hV => lw_379 C J m0 m1 hr ha hk nx hV hl
  refine lv_iload hx1 hb1 dl_144 (lv_at hl 4 rfl) ?_
  refine lv_if_ne (tgt := 176) hx1 hb1 dl_146 (by decide) (fun _ => ?_) (fun _ => ?_)
  rotate_left
  · refine lv_aload_n hx1 hb1 dl_149 rfl (lv_at hl 9 rfl) ?_
    refine lv_iconst (v := Int32.ofInt 1) hx1 hb1 dl_150 rfl ?_
    refine lv_iload hx1 hb1 dl_151 (lv_at hl 5 rfl) ?_
    refine lv_iconst (v := Int32.ofInt 4) hx1 hb1 dl_153 rfl ?_
    refine lv_ishr hx1 hb1 dl_154 ?_
    refine lv_bipush (v := Int32.ofInt 51) hx1 hb1 dl_155 (by decide) ?_
    refine lw_part C ck_181 dl_157 (by decide) hV hl.1 (Nat.le_of_ble_eq_true rfl) (fun y1 H locs hV => ?_)
    refine lv_iadd hx1 hb1 dl_160 ?_
    generalize Int32.ofInt 1 + y1 = z1
    refine lv_iload hx1 hb1 dl_161 (lv_at hl 5 rfl) ?_
    refine lv_bipush (v := Int32.ofInt 10) hx1 hb1 dl_163 (by decide) ?_
    refine lv_ishr hx1 hb1 dl_165 ?_
    refine lv_iconst (v := Int32.ofInt 4) hx1 hb1 dl_166 rfl ?_
    refine lw_part C ck_181 dl_167 (by decide) hV hl.1 (Nat.le_of_ble_eq_true rfl) (fun y2 H locs hV => ?_)
    refine lw_cv (d := 8) (as := [.int z1, .int y2]) (v := .int (op_name w.1 z1.toInt y2.toInt).1) (w' := wd_do w (op_name w.1 z1.toInt y2.toInt)) C ck_33 dl_170 rfl (by decide) (fun h V => fa_name V I m0 m1 (fun h' V' => ⟨rfl, V'⟩)) hV hl.1 (Nat.le_of_ble_eq_true rfl) (fun H locs hV => ?_)
    refine lv_goto (tgt := 379) hx1 hb1 dl_173 (by decide) ?_
    exact fin _ H locs (op_name_r I.1 m0) hV
  refine lv_iload hx1 hb1 dl_176 (lv_at hl 4 rfl) ?_
  refine lv_iconst (v := Int32.ofInt 3) hx1 hb1 dl_178 rfl ?_
  refine lv_icmp_ge (tgt := 197) hx1 hb1 dl_179 (by decide) (fun _ => ?_) (fun _ => ?_)
  rotate_left
  · refine lv_aload_n hx1 hb1 dl_182 rfl (lv_at hl 9 rfl) ?_
    refine lv_iload hx1 hb1 dl_183 (lv_at hl 5 rfl) ?_
    refine lv_iconst (v := Int32.ofInt 4) hx1 hb1 dl_185 rfl ?_
    refine lv_ishr hx1 hb1 dl_186 ?_
    refine lv_iconst (v := Int32.ofInt 5) hx1 hb1 dl_187 rfl ?_
    refine lw_part C ck_181 dl_188 (by decide) hV hl.1 (Nat.le_of_ble_eq_true rfl) (fun y1 H locs hV => ?_)
    refine lw_cv (d := 8) (as := [.int y1]) (v := .int (op_leaf w.1 y1.toInt).1) (w' := wd_do w (op_leaf w.1 y1.toInt)) C ck_39 dl_191 rfl (by decide) (fun h V => fa_leaf V I m0 m1 (fun h' V' => ⟨rfl, V'⟩)) hV hl.1 (Nat.le_of_ble_eq_true rfl) (fun H locs hV => ?_)
    refine lv_goto (tgt := 379) hx1 hb1 dl_194 (by decide) ?_
    exact fin _ H locs (op_leaf_r I.1 m0 (by omega)) hV
  refine lv_iload hx1 hb1 dl_197 (lv_at hl 4 rfl) ?_
  refine lv_iconst (v := Int32.ofInt 5) hx1 hb1 dl_199 rfl ?_
  refine lv_icmp_ge (tgt := 223) hx1 hb1 dl_200 (by decide) (fun _ => ?_) (fun _ => ?_)
  rotate_left
  · refine lv_aload_n hx1 hb1 dl_203 rfl (lv_at hl 9 rfl) ?_
    refine lv_iload hx1 hb1 dl_204 (lv_at hl 2 rfl) ?_
    refine lv_iload hx1 hb1 dl_206 (lv_at hl 5 rfl) ?_
    refine lv_bipush (v := Int32.ofInt 13) hx1 hb1 dl_208 (by decide) ?_
    refine lv_ishr hx1 hb1 dl_210 ?_
    refine lv_iconst (v := Int32.ofInt 2) hx1 hb1 dl_211 rfl ?_
    refine lw_part C ck_181 dl_212 (by decide) hV hl.1 (Nat.le_of_ble_eq_true rfl) (fun y1 H locs hV => ?_)
    refine lv_iload hx1 hb1 dl_215 (lv_at hl 0 rfl) ?_
    refine lw_cv (d := 8) (as := [.int x8, .int y1, .int x10]) (v := .int (op_enter w.1 x8 y1.toInt x10.toInt (Int32.ofInt (-1))).1) (w' := wd_do w (op_enter w.1 x8 y1.toInt x10.toInt (Int32.ofInt (-1)))) C ck_42 dl_217 rfl (by decide) (fun h V => fa_sign V I m0 m1 (fun h' V' => ⟨rfl, V'⟩)) hV hl.1 (Nat.le_of_ble_eq_true rfl) (fun H locs hV => ?_)
    refine lv_goto (tgt := 379) hx1 hb1 dl_220 (by decide) ?_
    exact fin _ H locs (op_enter_r I.1 m0 ⟨-1, by omega, by omega, rfl⟩) hV
  refine lv_iload hx1 hb1 dl_223 (lv_at hl 4 rfl) ?_
  refine lv_iconst (v := Int32.ofInt 5) hx1 hb1 dl_225 rfl ?_
  refine lv_icmp_ne (tgt := 240) hx1 hb1 dl_226 (by decide) (fun _ => ?_) (fun _ => ?_)
  rotate_left
  · refine lv_aload_n hx1 hb1 dl_229 rfl (lv_at hl 9 rfl) ?_
    refine lv_iload hx1 hb1 dl_230 (lv_at hl 2 rfl) ?_
    refine lv_iload hx1 hb1 dl_232 (lv_at hl 0 rfl) ?_
    refine lw_cv (d := 8) (as := [.int x8, .int x10]) (v := .int (op_over w.1 x8 x10.toInt).1) (w' := wd_do w (op_over w.1 x8 x10.toInt)) C ck_45 dl_234 rfl (by decide) (fun h V => fa_over V I m0 m1 (fun h' V' => ⟨rfl, V'⟩)) hV hl.1 (Nat.le_of_ble_eq_true rfl) (fun H locs hV => ?_)
    refine lv_goto (tgt := 379) hx1 hb1 dl_237 (by decide) ?_
    exact fin _ H locs (op_over_r I.1 m0) hV
  refine lv_iload hx1 hb1 dl_240 (lv_at hl 4 rfl) ?_
  refine lv_bipush (v := Int32.ofInt 6) hx1 hb1 dl_242 (by decide) ?_
  refine lv_icmp_ne (tgt := 274) hx1 hb1 dl_244 (by decide) (fun _ => ?_) (fun _ => ?_)
  rotate_left
  · refine lv_aload_n hx1 hb1 dl_247 rfl (lv_at hl 9 rfl) ?_
    refine lv_iload hx1 hb1 dl_248 (lv_at hl 2 rfl) ?_
    refine lv_iload hx1 hb1 dl_250 (lv_at hl 5 rfl) ?_
    refine lv_bipush (v := Int32.ofInt 13) hx1 hb1 dl_252 (by decide) ?_
    refine lv_ishr hx1 hb1 dl_254 ?_
    refine lv_iconst (v := Int32.ofInt 2) hx1 hb1 dl_255 rfl ?_
    refine lw_part C ck_181 dl_256 (by decide) hV hl.1 (Nat.le_of_ble_eq_true rfl) (fun y1 H locs hV => ?_)
    refine lv_iload hx1 hb1 dl_259 (lv_at hl 5 rfl) ?_
    refine lv_bipush (v := Int32.ofInt 14) hx1 hb1 dl_261 (by decide) ?_
    refine lv_ishr hx1 hb1 dl_263 ?_
    refine lv_iconst (v := Int32.ofInt 4) hx1 hb1 dl_264 rfl ?_
    refine lw_part C ck_181 dl_265 (by decide) hV hl.1 (Nat.le_of_ble_eq_true rfl) (fun y2 H locs hV => ?_)
    refine lw_cv (d := 8) (as := [.int x8, .int y1, .int y2]) (v := .int (op_ded w.1 x8 y1.toInt y2.toInt).1) (w' := wd_do w (op_ded w.1 x8 y1.toInt y2.toInt)) C ck_48 dl_268 rfl (by decide) (fun h V => fa_dedicate V I m0 m1 (fun h' V' => ⟨rfl, V'⟩)) hV hl.1 (Nat.le_of_ble_eq_true rfl) (fun H locs hV => ?_)
    refine lv_goto (tgt := 379) hx1 hb1 dl_271 (by decide) ?_
    exact fin _ H locs (op_ded_r I.1 m0) hV
  refine lv_iload hx1 hb1 dl_274 (lv_at hl 4 rfl) ?_
  refine lv_bipush (v := Int32.ofInt 7) hx1 hb1 dl_276 (by decide) ?_
  refine lv_icmp_ne (tgt := 299) hx1 hb1 dl_278 (by decide) (fun _ => ?_) (fun _ => ?_)
  rotate_left
  · refine lv_aload_n hx1 hb1 dl_281 rfl (lv_at hl 9 rfl) ?_
    refine lv_iload hx1 hb1 dl_282 (lv_at hl 2 rfl) ?_
    refine lv_iload hx1 hb1 dl_284 (lv_at hl 5 rfl) ?_
    refine lv_bipush (v := Int32.ofInt 14) hx1 hb1 dl_286 (by decide) ?_
    refine lv_ishr hx1 hb1 dl_288 ?_
    refine lv_iconst (v := Int32.ofInt 4) hx1 hb1 dl_289 rfl ?_
    refine lw_part C ck_181 dl_290 (by decide) hV hl.1 (Nat.le_of_ble_eq_true rfl) (fun y1 H locs hV => ?_)
    refine lw_cv (d := 8) (as := [.int x8, .int y1]) (v := .int (op_move w.1 x8 y1.toInt).1) (w' := wd_do w (op_move w.1 x8 y1.toInt)) C ck_51 dl_293 rfl (by decide) (fun h V => fa_move V I m0 m1 (fun h' V' => ⟨rfl, V'⟩)) hV hl.1 (Nat.le_of_ble_eq_true rfl) (fun H locs hV => ?_)
    refine lv_goto (tgt := 379) hx1 hb1 dl_296 (by decide) ?_
    exact fin _ H locs (op_move_r I.1 m0) hV
  refine lv_iload hx1 hb1 dl_299 (lv_at hl 4 rfl) ?_
  refine lv_bipush (v := Int32.ofInt 8) hx1 hb1 dl_301 (by decide) ?_
  refine lv_icmp_ne (tgt := 331) hx1 hb1 dl_303 (by decide) (fun _ => ?_) (fun _ => ?_)
  rotate_left
  · refine lv_aload_n hx1 hb1 dl_306 rfl (lv_at hl 9 rfl) ?_
    refine lv_iload hx1 hb1 dl_307 (lv_at hl 2 rfl) ?_
    refine lv_iload hx1 hb1 dl_309 (lv_at hl 1 rfl) ?_
    refine lv_iload hx1 hb1 dl_311 (lv_at hl 5 rfl) ?_
    refine lv_bipush (v := Int32.ofInt 14) hx1 hb1 dl_313 (by decide) ?_
    refine lv_ishr hx1 hb1 dl_315 ?_
    refine lv_sipush (v := Int32.ofInt 150) hx1 hb1 dl_316 (by decide) ?_
    refine lw_part C ck_181 dl_319 (by decide) hV hl.1 (Nat.le_of_ble_eq_true rfl) (fun y1 H locs hV => ?_)
    refine lv_bipush (v := Int32.ofInt 75) hx1 hb1 dl_322 (by decide) ?_
    refine lv_isub hx1 hb1 dl_324 ?_
    generalize y1 - Int32.ofInt 75 = z1
    refine lw_cv (d := 8) (as := [.int x8, .int x9, .int z1]) (v := .int (op_trade w.1 x8 x9 z1.toInt).1) (w' := wd_do w (op_trade w.1 x8 x9 z1.toInt)) C ck_55 dl_325 rfl (by decide) (fun h V => fa_trade V I m0 m1 (fun h' V' => ⟨rfl, V'⟩)) hV hl.1 (Nat.le_of_ble_eq_true rfl) (fun H locs hV => ?_)
    refine lv_goto (tgt := 379) hx1 hb1 dl_328 (by decide) ?_
    exact fin _ H locs (op_trade_r I.1 m0) hV
  refine lv_iload hx1 hb1 dl_331 (lv_at hl 4 rfl) ?_
  refine lv_bipush (v := Int32.ofInt 9) hx1 hb1 dl_333 (by decide) ?_
  refine lv_icmp_ne (tgt := 364) hx1 hb1 dl_335 (by decide) (fun _ => ?_) (fun _ => ?_)
  rotate_left
  · refine lv_aload_n hx1 hb1 dl_338 rfl (lv_at hl 9 rfl) ?_
    refine lv_iload hx1 hb1 dl_339 (lv_at hl 5 rfl) ?_
    refine lv_iconst (v := Int32.ofInt 4) hx1 hb1 dl_341 rfl ?_
    refine lv_ishr hx1 hb1 dl_342 ?_
    refine lv_iconst (v := Int32.ofInt 4) hx1 hb1 dl_343 rfl ?_
    refine lw_part C ck_181 dl_344 (by decide) hV hl.1 (Nat.le_of_ble_eq_true rfl) (fun y1 H locs hV => ?_)
    refine lv_iload hx1 hb1 dl_347 (lv_at hl 5 rfl) ?_
    refine lv_bipush (v := Int32.ofInt 6) hx1 hb1 dl_349 (by decide) ?_
    refine lv_ishr hx1 hb1 dl_351 ?_
    refine lv_sipush (v := Int32.ofInt 10050) hx1 hb1 dl_352 (by decide) ?_
    refine lw_part C ck_181 dl_355 (by decide) hV hl.1 (Nat.le_of_ble_eq_true rfl) (fun y2 H locs hV => ?_)
    refine lw_cv (d := 8) (as := [.int y1, .int y2]) (v := .int (op_coins w.1 y1.toInt y2.toInt).1) (w' := wd_do w (op_coins w.1 y1.toInt y2.toInt)) C ck_61 dl_358 rfl (by decide) (fun h V => fa_coins V I m0 m1 (fun h' V' => ⟨rfl, V'⟩)) hV hl.1 (Nat.le_of_ble_eq_true rfl) (fun H locs hV => ?_)
    refine lv_goto (tgt := 379) hx1 hb1 dl_361 (by decide) ?_
    exact fin _ H locs (op_coins_r I.1 m0) hV
  refine lv_aload_n hx1 hb1 dl_364 rfl (lv_at hl 9 rfl) ?_
  refine lv_iload hx1 hb1 dl_365 (lv_at hl 2 rfl) ?_
  refine lv_if_ne (tgt := 374) hx1 hb1 dl_367 (by decide) (fun _ => ?_) (fun _ => ?_)
  · refine lv_iload hx1 hb1 dl_374 (lv_at hl 2 rfl) ?_
    refine lw_cv (d := 8) (as := [.int x8]) (v := .int (op_tear w.1 x8).1) (w' := wd_do w (op_tear w.1 x8)) C ck_58 dl_376 rfl (by decide) (fun h V => fa_tear V I m0 m1 (fun h' V' => ⟨rfl, V'⟩)) hV hl.1 (Nat.le_of_ble_eq_true rfl) (fun H locs hV => ?_)
    exact fin _ H locs (op_tear_r I.1 m0) hV
  · refine lv_iconst (v := Int32.ofInt (-1)) hx1 hb1 dl_370 rfl ?_
    refine lv_goto (tgt := 376) hx1 hb1 dl_371 (by decide) ?_
    refine lw_cv (d := 8) (as := [.int (Int32.ofInt (-1))]) (v := .int (op_tear w.1 (Int32.ofInt (-1))).1) (w' := wd_do w (op_tear w.1 (Int32.ofInt (-1)))) C ck_58 dl_376 rfl (by decide) (fun h V => fa_tear V I m0 m1 (fun h' V' => ⟨rfl, V'⟩)) hV hl.1 (Nat.le_of_ble_eq_true rfl) (fun H locs hV => ?_)
    exact fin _ H locs (op_tear_r I.1 m0) hV
set_option maxHeartbeats 4000000 in
set_option maxRecDepth 100000 in
theorem lw_83 {k a : Nat} {U : List St} {M : Int} {x5 x6 : Int32} (C : lw_Cx p s m meth c b L xs D cA cL) (J : lw_J w U a g M) (m0 : 0 ≤ M) (m1 : M ≤ 900000) (ha : a < 64) (hk : k < 100)
    (nx : ∀ (a' : Nat) (U' : List St) (w' : Wd) (g' : Nat → Int64) (H : Heap) (locs : List Loc) (ls : Array Slot), a' ≤ a + 1 → lw_J w' U' a' g' (M + 61) → lw_V s D cA cL B w' g' H locs → lv_has ls 12 (lw_L b B a' (k + 1)) → W p l e room_1 s m #[Value.ref b] below meth c H locs 600000 7302250 Z (F0 m 51 ls []))
    (hV : lw_V s D cA cL B w g H locs) (hl : lv_has ls 12 [(5, .int x5), (4, .int (Int32.ofInt (k : Int))), (3, .int (Int32.ofInt (a : Int))), (2, .ref (B + 192)), (1, .ref (B + 0)), (0, .ref b)]) : W p l e room_1 s m #[Value.ref b] below meth c H locs 600000 7302250 Z (F0 m 83 ls [.int x6]) := by
  obtain ⟨⟨hx1, hb1, hml, hown, hts, hnw, hK⟩, hret, hKL, hX, hbl, hlk, hts2, hcL⟩ := id C
  have I := J.2.2.2.2
  have hev : 0 ≤ w.1.2.2.2.2 ∧ w.1.2.2.2.2 ≤ 900000 := by
    have := I.1.2.2.2.2.1
    omega
  have hev1 : ¬ Int32.ofInt w.1.2.2.2.2 + Int32.ofInt 1 = Int32.ofInt 0 := by
    rw [ii_add, ii_eq (by omega) (by omega) (by omega) (by omega)]
    omega
  refine lv_istore (lv' := [(6, .int x6), (5, .int x5), (4, .int (Int32.ofInt (k : Int))), (3, .int (Int32.ofInt (a : Int))), (2, .ref (B + 192)), (1, .ref (B + 0)), (0, .ref b)]) hx1 hb1 dl_83 hl (by decide) rfl (fun ls hl => ?_)
  refine lv_aload_n hx1 hb1 dl_85 rfl (lv_at hl 4 rfl) ?_
  refine lv_iload_n hx1 hb1 dl_86 rfl (lv_at hl 3 rfl) ?_
  refine lv_aload_n hx1 hb1 dl_87 rfl (lv_at hl 5 rfl) ?_
  refine lw_ct (d := 7) (as := [.ref 0]) (v := .long (sn w.1)) (w' := w) C ck_90 mc_l.2.1 dl_88 rfl (by decide) (fun h V => sp_Law_seen V I.1 ⟨rfl, V⟩) hV hl.1 (Nat.le_of_ble_eq_true rfl) (fun H locs hV => ?_)
  refine lw_last C dl_91 ha hV (fun H locs hV => ?_)
  refine lv_aload_n hx1 hb1 dl_92 rfl (lv_at hl 5 rfl) ?_
  refine lv_bipush (v := Int32.ofInt 8) hx1 hb1 dl_93 (by decide) ?_
  refine lw_cv (d := 8) (as := [.int (Int32.ofInt 8)]) (v := .int (qa_count w 8)) (w' := w) C ck_13 dl_95 rfl (by decide) (fun h V => ab_C.up (fc_count V I.1 (by omega) (by omega) ⟨rfl, V⟩) (Nat.le_of_ble_eq_true rfl)) hV hl.1 (Nat.le_of_ble_eq_true rfl) (fun H locs hV => ?_)
  refine lv_istore (lv' := [(7, .int (qa_count w 8)), (6, .int x6), (5, .int x5), (4, .int (Int32.ofInt (k : Int))), (3, .int (Int32.ofInt (a : Int))), (2, .ref (B + 192)), (1, .ref (B + 0)), (0, .ref b)]) hx1 hb1 dl_98 hl (by decide) rfl (fun ls hl => ?_)
  refine lv_iload hx1 hb1 dl_100 (lv_at hl 2 rfl) ?_
  refine lv_iconst (v := Int32.ofInt 4) hx1 hb1 dl_102 rfl ?_
  refine lv_ishr hx1 hb1 dl_103 ?_
  refine lv_aload_n hx1 hb1 dl_104 rfl (lv_at hl 6 rfl) ?_
  refine lv_iconst (v := Int32.ofInt 4) hx1 hb1 dl_105 rfl ?_
  refine lw_cv (d := 8) (as := [.int (Int32.ofInt 4)]) (v := .int (qa_count w 4)) (w' := w) C ck_13 dl_106 rfl (by decide) (fun h V => ab_C.up (fc_count V I.1 (by omega) (by omega) ⟨rfl, V⟩) (Nat.le_of_ble_eq_true rfl)) hV hl.1 (Nat.le_of_ble_eq_true rfl) (fun H locs hV => ?_)
  rw [qa_ev]
  simp only [ab_em]
  refine lv_iconst (v := Int32.ofInt 1) hx1 hb1 dl_109 rfl ?_
  refine lv_iadd hx1 hb1 dl_110 ?_
  refine lw_part C ck_181 dl_111 hev1 hV hl.1 (Nat.le_of_ble_eq_true rfl) (fun x8 H locs hV => ?_)
  refine lv_istore (lv' := [(8, .int x8), (7, .int (qa_count w 8)), (6, .int x6), (5, .int x5), (4, .int (Int32.ofInt (k : Int))), (3, .int (Int32.ofInt (a : Int))), (2, .ref (B + 192)), (1, .ref (B + 0)), (0, .ref b)]) hx1 hb1 dl_114 hl (by decide) rfl (fun ls hl => ?_)
  refine lv_iload hx1 hb1 dl_116 (lv_at hl 3 rfl) ?_
  refine lv_bipush (v := Int32.ofInt 9) hx1 hb1 dl_118 (by decide) ?_
  refine lv_ishr hx1 hb1 dl_120 ?_
  refine lv_aload_n hx1 hb1 dl_121 rfl (lv_at hl 7 rfl) ?_
  refine lv_iconst (v := Int32.ofInt 4) hx1 hb1 dl_122 rfl ?_
  refine lw_cv (d := 8) (as := [.int (Int32.ofInt 4)]) (v := .int (qa_count w 4)) (w' := w) C ck_13 dl_123 rfl (by decide) (fun h V => ab_C.up (fc_count V I.1 (by omega) (by omega) ⟨rfl, V⟩) (Nat.le_of_ble_eq_true rfl)) hV hl.1 (Nat.le_of_ble_eq_true rfl) (fun H locs hV => ?_)
  rw [qa_ev]
  simp only [ab_em]
  refine lv_iconst (v := Int32.ofInt 1) hx1 hb1 dl_126 rfl ?_
  refine lv_iadd hx1 hb1 dl_127 ?_
  refine lw_part C ck_181 dl_128 hev1 hV hl.1 (Nat.le_of_ble_eq_true rfl) (fun x9 H locs hV => ?_)
  refine lv_istore (lv' := [(9, .int x9), (8, .int x8), (7, .int (qa_count w 8)), (6, .int x6), (5, .int x5), (4, .int (Int32.ofInt (k : Int))), (3, .int (Int32.ofInt (a : Int))), (2, .ref (B + 192)), (1, .ref (B + 0)), (0, .ref b)]) hx1 hb1 dl_131 hl (by decide) rfl (fun ls hl => ?_)
  refine lv_iload hx1 hb1 dl_133 (lv_at hl 4 rfl) ?_
  refine lv_bipush (v := Int32.ofInt 14) hx1 hb1 dl_135 (by decide) ?_
  refine lv_ishr hx1 hb1 dl_137 ?_
  refine lv_iconst (v := Int32.ofInt 5) hx1 hb1 dl_138 rfl ?_
  refine lw_part C ck_181 dl_139 (by decide) hV hl.1 (Nat.le_of_ble_eq_true rfl) (fun x10 H locs hV => ?_)
  refine lv_istore (lv' := [(10, .int x10), (9, .int x9), (8, .int x8), (7, .int (qa_count w 8)), (6, .int x6), (5, .int x5), (4, .int (Int32.ofInt (k : Int))), (3, .int (Int32.ofInt (a : Int))), (2, .ref (B + 192)), (1, .ref (B + 0)), (0, .ref b)]) hx1 hb1 dl_142 hl (by decide) rfl (fun ls hl => ?_)
  exact lw_144 C J m0 m1 ha hk nx hV hl
set_option maxHeartbeats 4000000 in
set_option maxRecDepth 100000 in
theorem lw_loop (C : lw_Cx p s m meth c b L xs D cA cL) (hL : L ≤ 260)
    (nx : ∀ (a : Nat) (U : List St) (w : Wd) (g : Nat → Int64) (H : Heap) (locs : List Loc) (ls : Array Slot), a ≤ 30 → lw_J w U a g (61 * 32) → lw_V s D cA cL B w g H locs → lv_has ls 12 (lw_L b B a 30) → W p l e room_1 s m #[Value.ref b] below meth c H locs 600000 7302250 Z (F0 m 429 ls [])) :
    ∀ (n k a : Nat) (U : List St) (w : Wd) (g : Nat → Int64) (H : Heap) (locs : List Loc) (ls : Array Slot), k + n = 30 → a ≤ k → lw_J w U a g (61 * ((k : Int) + 2)) → lw_V s D cA cL B w g H locs → lv_has ls 12 (lw_L b B a k) → W p l e room_1 s m #[Value.ref b] below meth c H locs 600000 7302250 Z (F0 m 51 ls []) := by
  obtain ⟨⟨hx1, hb1, hml, hown, hts, hnw, hK⟩, hret, hKL, hX, hbl, hlk, hts2, hcL⟩ := id C
  intro n
  induction n with
  | zero =>
    intro k a U w g H locs ls hn ha J hV hl
    obtain rfl : k = 30 := by omega
    refine lv_iload hx1 hb1 dl_51 (lv_at hl 0 rfl) ?_
    refine lv_bipush (v := Int32.ofInt 30) hx1 hb1 dl_53 (by decide) ?_
    refine lv_icmp_ge (tgt := 429) hx1 hb1 dl_55 (by decide) (fun _ => ?_) (fun q => absurd (by decide) q)
    exact nx a U w g H locs ls ha J hV hl
  | succ n ih =>
    intro k a U w g H locs ls hn ha J hV hl
    have J51 : ∀ (a' : Nat) (U' : List St) (w' : Wd) (g' : Nat → Int64) (H : Heap) (locs : List Loc) (ls : Array Slot), a' ≤ a + 1 → lw_J w' U' a' g' (61 * ((k : Int) + 2) + 61) → lw_V s D cA cL B w' g' H locs → lv_has ls 12 (lw_L b B a' (k + 1)) → W p l e room_1 s m #[Value.ref b] below meth c H locs 600000 7302250 Z (F0 m 51 ls []) := by
      intro a' U' w' g' H locs ls h1 h2 h3 h4
      refine ih (k + 1) a' U' w' g' H locs ls (by omega) (by omega) ?_ h3 h4
      rw [show (61 : Int) * (((k + 1 : Nat) : Int) + 2) = 61 * ((k : Int) + 2) + 61 by omega]
      exact h2
    refine lv_iload hx1 hb1 dl_51 (lv_at hl 0 rfl) ?_
    refine lv_bipush (v := Int32.ofInt 30) hx1 hb1 dl_53 (by decide) ?_
    refine lv_icmp_ge (tgt := 429) hx1 hb1 dl_55 (by decide) (fun q => ?_) (fun _ => ?_)
    · exfalso; rw [ii_le (by omega) (by omega) (by omega) (by omega)] at q; omega
    refine lv_aload_n hx1 hb1 dl_58 rfl (lv_at hl 4 rfl) ?_
    refine lv_iload hx1 hb1 dl_59 (lv_at hl 0 rfl) ?_
    refine lw_drawn C ck_177 dl_61 (by omega) hL hV hl.1 (Nat.le_of_ble_eq_true rfl) (fun x5 locs hV => ?_)
    refine lv_istore (lv' := [(5, .int x5), (4, .int (Int32.ofInt (k : Int))), (3, .int (Int32.ofInt (a : Int))), (2, .ref (B + 192)), (1, .ref (B + 0)), (0, .ref b)]) hx1 hb1 dl_64 hl (by decide) rfl (fun ls hl => ?_)
    refine lv_iload hx1 hb1 dl_66 (lv_at hl 1 rfl) ?_
    refine lv_iconst (v := Int32.ofInt 4) hx1 hb1 dl_68 rfl ?_
    refine lv_icmp_ge (tgt := 76) hx1 hb1 dl_69 (by decide) (fun _ => ?_) (fun _ => ?_)
    · refine lv_iload hx1 hb1 dl_76 (lv_at hl 0 rfl) ?_
      refine lv_bipush (v := Int32.ofInt 11) hx1 hb1 dl_78 (by decide) ?_
      refine lw_part C ck_181 dl_80 (by decide) hV hl.1 (Nat.le_of_ble_eq_true rfl) (fun x6 H locs hV => ?_)
      exact lw_83 C J (by omega) (by omega) (by omega) (by omega) J51 hV hl
    · refine lv_iconst (v := Int32.ofInt 1) hx1 hb1 dl_72 rfl ?_
      refine lv_goto (tgt := 83) hx1 hb1 dl_73 (by decide) ?_
      exact lw_83 C J (by omega) (by omega) (by omega) (by omega) J51 hV hl
end
