theorem dX7_call_324 : decode cX7_call 324 = .ok (.if_icmp .eq 10, 3) := by decide +kernel
theorem dX7_call_327 : decode cX7_call 327 = .ok (.iload 8, 2) := by decide +kernel
theorem dX7_call_329 : decode cX7_call 329 = .ok (.bipush 17, 2) := by decide +kernel
theorem dX7_call_331 : decode cX7_call 331 = .ok (.if_icmp .ne 7, 3) := by decide +kernel
theorem dX7_call_334 : decode cX7_call 334 = .ok (.iconst 1, 1) := by decide +kernel
theorem dX7_call_335 : decode cX7_call 335 = .ok (.goto 4, 3) := by decide +kernel
theorem dX7_call_338 : decode cX7_call 338 = .ok (.iconst 0, 1) := by decide +kernel
theorem dX7_call_339 : decode cX7_call 339 = .ok (.istore 14, 2) := by decide +kernel
theorem dX7_call_341 : decode cX7_call 341 = .ok (.iload 8, 2) := by decide +kernel
theorem dX7_call_343 : decode cX7_call 343 = .ok (.bipush 13, 2) := by decide +kernel
theorem dX7_call_345 : decode cX7_call 345 = .ok (.if_icmp .eq 28, 3) := by decide +kernel
theorem dX7_call_348 : decode cX7_call 348 = .ok (.aload_n 0, 1) := by decide +kernel
theorem dX7_call_349 : decode cX7_call 349 = .ok (.getfield 139, 3) := by decide +kernel
theorem dX7_call_352 : decode cX7_call 352 = .ok (.iload 13, 2) := by decide +kernel
theorem dX7_call_354 : decode cX7_call 354 = .ok (.if_icmp .lt 17, 3) := by decide +kernel
theorem dX7_call_357 : decode cX7_call 357 = .ok (.iload 14, 2) := by decide +kernel
theorem dX7_call_359 : decode cX7_call 359 = .ok (.ifCond .eq 14, 3) := by decide +kernel
theorem dX7_call_362 : decode cX7_call 362 = .ok (.aload_n 0, 1) := by decide +kernel
theorem dX7_call_363 : decode cX7_call 363 = .ok (.getfield 139, 3) := by decide +kernel
theorem dX7_call_366 : decode cX7_call 366 = .ok (.bipush 16, 2) := by decide +kernel
theorem dX7_call_368 : decode cX7_call 368 = .ok (.if_icmp .ne 5, 3) := by decide +kernel
theorem dX7_call_371 : decode cX7_call 371 = .ok (.iconst 3, 1) := by decide +kernel
theorem dX7_call_372 : decode cX7_call 372 = .ok (.ireturn, 1) := by decide +kernel
theorem dX7_call_373 : decode cX7_call 373 = .ok (.iconst 0, 1) := by decide +kernel
theorem dX7_call_374 : decode cX7_call 374 = .ok (.istore 15, 2) := by decide +kernel
theorem dX7_call_376 : decode cX7_call 376 = .ok (.iload 8, 2) := by decide +kernel
theorem dX7_call_378 : decode cX7_call 378 = .ok (.bipush 13, 2) := by decide +kernel
theorem dX7_call_380 : decode cX7_call 380 = .ok (.if_icmp .eq 19, 3) := by decide +kernel
theorem dX7_call_383 : decode cX7_call 383 = .ok (.iload 8, 2) := by decide +kernel
theorem dX7_call_385 : decode cX7_call 385 = .ok (.bipush 14, 2) := by decide +kernel
theorem dX7_call_387 : decode cX7_call 387 = .ok (.if_icmp .ne 42, 3) := by decide +kernel
theorem dX7_call_390 : decode cX7_call 390 = .ok (.aload_n 0, 1) := by decide +kernel
theorem dX7_call_391 : decode cX7_call 391 = .ok (.invokevirtual 151, 3) := by decide +kernel
theorem dX7_call_394 : decode cX7_call 394 = .ok (.lconst 0, 1) := by decide +kernel
theorem dX7_call_395 : decode cX7_call 395 = .ok (.lcmp, 1) := by decide +kernel
theorem dX7_call_396 : decode cX7_call 396 = .ok (.ifCond .ne 33, 3) := by decide +kernel
theorem dX7_call_399 : decode cX7_call 399 = .ok (.iload 11, 2) := by decide +kernel
theorem dX7_call_401 : decode cX7_call 401 = .ok (.iload 10, 2) := by decide +kernel
theorem dX7_call_403 : decode cX7_call 403 = .ok (.iadd, 1) := by decide +kernel
theorem dX7_call_404 : decode cX7_call 404 = .ok (.ifCond .lt 13, 3) := by decide +kernel
theorem dX7_call_407 : decode cX7_call 407 = .ok (.iload 11, 2) := by decide +kernel
theorem dX7_call_409 : decode cX7_call 409 = .ok (.iload 10, 2) := by decide +kernel
theorem dX7_call_411 : decode cX7_call 411 = .ok (.iadd, 1) := by decide +kernel
theorem dX7_call_412 : decode cX7_call 412 = .ok (.iload 4, 2) := by decide +kernel
theorem dX7_call_414 : decode cX7_call 414 = .ok (.if_icmp .le 5, 3) := by decide +kernel
theorem dX7_call_417 : decode cX7_call 417 = .ok (.iconst 1, 1) := by decide +kernel
theorem dX7_call_418 : decode cX7_call 418 = .ok (.ireturn, 1) := by decide +kernel
theorem dX7_call_419 : decode cX7_call 419 = .ok (.iload 11, 2) := by decide +kernel
theorem dX7_call_421 : decode cX7_call 421 = .ok (.iload 10, 2) := by decide +kernel
theorem dX7_call_423 : decode cX7_call 423 = .ok (.iadd, 1) := by decide +kernel
theorem dX7_call_424 : decode cX7_call 424 = .ok (.istore 11, 2) := by decide +kernel
theorem dX7_call_426 : decode cX7_call 426 = .ok (.goto 61, 3) := by decide +kernel
theorem dX7_call_429 : decode cX7_call 429 = .ok (.iload 8, 2) := by decide +kernel
theorem dX7_call_431 : decode cX7_call 431 = .ok (.iconst 5, 1) := by decide +kernel
theorem dX7_call_432 : decode cX7_call 432 = .ok (.if_icmp .ge 17, 3) := by decide +kernel
theorem dX7_call_435 : decode cX7_call 435 = .ok (.aload_n 0, 1) := by decide +kernel
theorem dX7_call_436 : decode cX7_call 436 = .ok (.iload 8, 2) := by decide +kernel
theorem dX7_call_438 : decode cX7_call 438 = .ok (.iload 10, 2) := by decide +kernel
theorem dX7_call_440 : decode cX7_call 440 = .ok (.iload_n 1, 1) := by decide +kernel
theorem dX7_call_441 : decode cX7_call 441 = .ok (.iload 5, 2) := by decide +kernel
theorem dX7_call_443 : decode cX7_call 443 = .ok (.invokevirtual 155, 3) := by decide +kernel
theorem dX7_call_446 : decode cX7_call 446 = .ok (.goto 41, 3) := by decide +kernel
theorem dX7_call_449 : decode cX7_call 449 = .ok (.iload 8, 2) := by decide +kernel
theorem dX7_call_451 : decode cX7_call 451 = .ok (.bipush 12, 2) := by decide +kernel
theorem dX7_call_453 : decode cX7_call 453 = .ok (.if_icmp .ge 14, 3) := by decide +kernel
theorem dX7_call_456 : decode cX7_call 456 = .ok (.aload_n 0, 1) := by decide +kernel
theorem dX7_call_457 : decode cX7_call 457 = .ok (.iload 8, 2) := by decide +kernel
theorem dX7_call_459 : decode cX7_call 459 = .ok (.invokevirtual 159, 3) := by decide +kernel
theorem dX7_call_462 : decode cX7_call 462 = .ok (.istore 15, 2) := by decide +kernel
theorem dX7_call_464 : decode cX7_call 464 = .ok (.goto 23, 3) := by decide +kernel
theorem dX7_call_467 : decode cX7_call 467 = .ok (.iload 8, 2) := by decide +kernel
theorem dX7_call_469 : decode cX7_call 469 = .ok (.bipush 14, 2) := by decide +kernel
theorem dX7_call_471 : decode cX7_call 471 = .ok (.if_icmp .eq 16, 3) := by decide +kernel
theorem dX7_call_474 : decode cX7_call 474 = .ok (.aload_n 0, 1) := by decide +kernel
theorem dX7_call_475 : decode cX7_call 475 = .ok (.iload 8, 2) := by decide +kernel
theorem dX7_call_477 : decode cX7_call 477 = .ok (.iload 10, 2) := by decide +kernel
theorem dX7_call_479 : decode cX7_call 479 = .ok (.iload_n 1, 1) := by decide +kernel
theorem dX7_call_480 : decode cX7_call 480 = .ok (.iload 5, 2) := by decide +kernel
theorem dX7_call_482 : decode cX7_call 482 = .ok (.invokevirtual 162, 3) := by decide +kernel
theorem dX7_call_485 : decode cX7_call 485 = .ok (.istore 15, 2) := by decide +kernel
theorem dX7_call_487 : decode cX7_call 487 = .ok (.iload 15, 2) := by decide +kernel
theorem dX7_call_489 : decode cX7_call 489 = .ok (.ifCond .le 6, 3) := by decide +kernel
theorem dX7_call_492 : decode cX7_call 492 = .ok (.iload 15, 2) := by decide +kernel
theorem dX7_call_494 : decode cX7_call 494 = .ok (.ireturn, 1) := by decide +kernel
theorem dX7_call_495 : decode cX7_call 495 = .ok (.iload 11, 2) := by decide +kernel
theorem dX7_call_497 : decode cX7_call 497 = .ok (.istore 7, 2) := by decide +kernel
theorem dX7_call_499 : decode cX7_call 499 = .ok (.goto (-446), 3) := by decide +kernel
theorem dX7_call_502 : decode cX7_call 502 = .ok (.iconst 0, 1) := by decide +kernel
theorem dX7_call_503 : decode cX7_call 503 = .ok (.ireturn, 1) := by decide +kernel
theorem dX7_move_0 : decode cX7_move 0 = .ok (.iload_n 1, 1) := by decide +kernel
theorem dX7_move_1 : decode cX7_move 1 = .ok (.ifCond .ne 12, 3) := by decide +kernel
theorem dX7_move_4 : decode cX7_move 4 = .ok (.aload_n 0, 1) := by decide +kernel
theorem dX7_move_5 : decode cX7_move 5 = .ok (.iload_n 2, 1) := by decide +kernel
theorem dX7_move_6 : decode cX7_move 6 = .ok (.i2l, 1) := by decide +kernel
theorem dX7_move_7 : decode cX7_move 7 = .ok (.invokevirtual 166, 3) := by decide +kernel
theorem dX7_move_10 : decode cX7_move 10 = .ok (.goto 89, 3) := by decide +kernel
theorem dX7_move_13 : decode cX7_move 13 = .ok (.iload_n 1, 1) := by decide +kernel
theorem dX7_move_14 : decode cX7_move 14 = .ok (.iconst 1, 1) := by decide +kernel
theorem dX7_move_15 : decode cX7_move 15 = .ok (.if_icmp .ne 22, 3) := by decide +kernel
theorem dX7_move_18 : decode cX7_move 18 = .ok (.aload_n 0, 1) := by decide +kernel
theorem dX7_move_19 : decode cX7_move 19 = .ok (.aload_n 0, 1) := by decide +kernel
theorem dX7_move_20 : decode cX7_move 20 = .ok (.getfield 64, 3) := by decide +kernel
theorem dX7_move_23 : decode cX7_move 23 = .ok (.bipush 8, 2) := by decide +kernel
theorem dX7_move_25 : decode cX7_move 25 = .ok (.iload 4, 2) := by decide +kernel
theorem dX7_move_27 : decode cX7_move 27 = .ok (.imul, 1) := by decide +kernel
theorem dX7_move_28 : decode cX7_move 28 = .ok (.iload_n 2, 1) := by decide +kernel
theorem dX7_move_29 : decode cX7_move 29 = .ok (.iadd, 1) := by decide +kernel
theorem dX7_move_30 : decode cX7_move 30 = .ok (.laload, 1) := by decide +kernel
theorem dX7_move_31 : decode cX7_move 31 = .ok (.invokevirtual 166, 3) := by decide +kernel
theorem dX7_move_34 : decode cX7_move 34 = .ok (.goto 65, 3) := by decide +kernel
theorem dX7_move_37 : decode cX7_move 37 = .ok (.iload_n 1, 1) := by decide +kernel
theorem dX7_move_38 : decode cX7_move 38 = .ok (.iconst 2, 1) := by decide +kernel
theorem dX7_move_39 : decode cX7_move 39 = .ok (.if_icmp .ne 22, 3) := by decide +kernel
theorem dX7_move_42 : decode cX7_move 42 = .ok (.aload_n 0, 1) := by decide +kernel
theorem dX7_move_43 : decode cX7_move 43 = .ok (.getfield 64, 3) := by decide +kernel
theorem dX7_move_46 : decode cX7_move 46 = .ok (.bipush 8, 2) := by decide +kernel
theorem dX7_move_48 : decode cX7_move 48 = .ok (.iload 4, 2) := by decide +kernel
theorem dX7_move_50 : decode cX7_move 50 = .ok (.imul, 1) := by decide +kernel
theorem dX7_move_51 : decode cX7_move 51 = .ok (.iload_n 2, 1) := by decide +kernel
theorem dX7_move_52 : decode cX7_move 52 = .ok (.iadd, 1) := by decide +kernel
theorem dX7_move_53 : decode cX7_move 53 = .ok (.aload_n 0, 1) := by decide +kernel
theorem dX7_move_54 : decode cX7_move 54 = .ok (.invokevirtual 151, 3) := by decide +kernel
theorem dX7_move_57 : decode cX7_move 57 = .ok (.lastore, 1) := by decide +kernel
theorem dX7_move_58 : decode cX7_move 58 = .ok (.goto 41, 3) := by decide +kernel
theorem dX7_move_61 : decode cX7_move 61 = .ok (.iload_n 1, 1) := by decide +kernel
theorem dX7_move_62 : decode cX7_move 62 = .ok (.iconst 3, 1) := by decide +kernel
theorem dX7_move_63 : decode cX7_move 63 = .ok (.if_icmp .ne 21, 3) := by decide +kernel
theorem dX7_move_66 : decode cX7_move 66 = .ok (.aload_n 0, 1) := by decide +kernel
theorem dX7_move_67 : decode cX7_move 67 = .ok (.aload_n 0, 1) := by decide +kernel
theorem dX7_move_68 : decode cX7_move 68 = .ok (.getfield 35, 3) := by decide +kernel
theorem dX7_move_71 : decode cX7_move 71 = .ok (.bipush 8, 2) := by decide +kernel
theorem dX7_move_73 : decode cX7_move 73 = .ok (.iload_n 3, 1) := by decide +kernel
theorem dX7_move_74 : decode cX7_move 74 = .ok (.imul, 1) := by decide +kernel
theorem dX7_move_75 : decode cX7_move 75 = .ok (.iload_n 2, 1) := by decide +kernel
theorem dX7_move_76 : decode cX7_move 76 = .ok (.iadd, 1) := by decide +kernel
theorem dX7_move_77 : decode cX7_move 77 = .ok (.laload, 1) := by decide +kernel
theorem dX7_move_78 : decode cX7_move 78 = .ok (.invokevirtual 166, 3) := by decide +kernel
theorem dX7_move_81 : decode cX7_move 81 = .ok (.goto 18, 3) := by decide +kernel
theorem dX7_move_84 : decode cX7_move 84 = .ok (.aload_n 0, 1) := by decide +kernel
theorem dX7_move_85 : decode cX7_move 85 = .ok (.getfield 35, 3) := by decide +kernel
theorem dX7_move_88 : decode cX7_move 88 = .ok (.bipush 8, 2) := by decide +kernel
theorem dX7_move_90 : decode cX7_move 90 = .ok (.iload_n 3, 1) := by decide +kernel
theorem dX7_move_91 : decode cX7_move 91 = .ok (.imul, 1) := by decide +kernel
theorem dX7_move_92 : decode cX7_move 92 = .ok (.iload_n 2, 1) := by decide +kernel
theorem dX7_move_93 : decode cX7_move 93 = .ok (.iadd, 1) := by decide +kernel
theorem dX7_move_94 : decode cX7_move 94 = .ok (.aload_n 0, 1) := by decide +kernel
theorem dX7_move_95 : decode cX7_move 95 = .ok (.invokevirtual 151, 3) := by decide +kernel
theorem dX7_move_98 : decode cX7_move 98 = .ok (.lastore, 1) := by decide +kernel
theorem dX7_move_99 : decode cX7_move 99 = .ok (.return_, 1) := by decide +kernel
theorem dX7_reckon_0 : decode cX7_reckon 0 = .ok (.aload_n 0, 1) := by decide +kernel
theorem dX7_reckon_1 : decode cX7_reckon 1 = .ok (.invokevirtual 151, 3) := by decide +kernel
theorem dX7_reckon_4 : decode cX7_reckon 4 = .ok (.lstore_n 2, 1) := by decide +kernel
theorem dX7_reckon_5 : decode cX7_reckon 5 = .ok (.aload_n 0, 1) := by decide +kernel
theorem dX7_reckon_6 : decode cX7_reckon 6 = .ok (.invokevirtual 151, 3) := by decide +kernel
theorem dX7_reckon_9 : decode cX7_reckon 9 = .ok (.lstore 4, 2) := by decide +kernel
theorem dX7_reckon_11 : decode cX7_reckon 11 = .ok (.iload_n 1, 1) := by decide +kernel
theorem dX7_reckon_12 : decode cX7_reckon 12 = .ok (.bipush 8, 2) := by decide +kernel
theorem dX7_reckon_14 : decode cX7_reckon 14 = .ok (.if_icmp .eq 9, 3) := by decide +kernel
theorem dX7_reckon_17 : decode cX7_reckon 17 = .ok (.iload_n 1, 1) := by decide +kernel
theorem dX7_reckon_18 : decode cX7_reckon 18 = .ok (.bipush 9, 2) := by decide +kernel
theorem dX7_reckon_20 : decode cX7_reckon 20 = .ok (.if_icmp .ne 11, 3) := by decide +kernel
theorem dX7_reckon_23 : decode cX7_reckon 23 = .ok (.lload_n 2, 1) := by decide +kernel
theorem dX7_reckon_24 : decode cX7_reckon 24 = .ok (.lconst 0, 1) := by decide +kernel
theorem dX7_reckon_25 : decode cX7_reckon 25 = .ok (.lcmp, 1) := by decide +kernel
theorem dX7_reckon_26 : decode cX7_reckon 26 = .ok (.ifCond .ne 5, 3) := by decide +kernel
theorem dX7_reckon_29 : decode cX7_reckon 29 = .ok (.iconst 4, 1) := by decide +kernel
theorem dX7_reckon_30 : decode cX7_reckon 30 = .ok (.ireturn, 1) := by decide +kernel
theorem dX7_reckon_31 : decode cX7_reckon 31 = .ok (.iload_n 1, 1) := by decide +kernel
theorem dX7_reckon_32 : decode cX7_reckon 32 = .ok (.tableswitch 114 5 10 #[40, 51, 62, 73, 84, 95], 40) := by decide +kernel
theorem dX7_reckon_72 : decode cX7_reckon 72 = .ok (.aload_n 0, 1) := by decide +kernel
theorem dX7_reckon_73 : decode cX7_reckon 73 = .ok (.lload 4, 2) := by decide +kernel
theorem dX7_reckon_75 : decode cX7_reckon 75 = .ok (.lload_n 2, 1) := by decide +kernel
theorem dX7_reckon_76 : decode cX7_reckon 76 = .ok (.ladd, 1) := by decide +kernel
theorem dX7_reckon_77 : decode cX7_reckon 77 = .ok (.invokevirtual 166, 3) := by decide +kernel
theorem dX7_reckon_80 : decode cX7_reckon 80 = .ok (.goto 82, 3) := by decide +kernel
theorem dX7_reckon_83 : decode cX7_reckon 83 = .ok (.aload_n 0, 1) := by decide +kernel
theorem dX7_reckon_84 : decode cX7_reckon 84 = .ok (.lload 4, 2) := by decide +kernel
theorem dX7_reckon_86 : decode cX7_reckon 86 = .ok (.lload_n 2, 1) := by decide +kernel
theorem dX7_reckon_87 : decode cX7_reckon 87 = .ok (.lsub, 1) := by decide +kernel
theorem dX7_reckon_88 : decode cX7_reckon 88 = .ok (.invokevirtual 166, 3) := by decide +kernel
theorem dX7_reckon_91 : decode cX7_reckon 91 = .ok (.goto 71, 3) := by decide +kernel
theorem dX7_reckon_94 : decode cX7_reckon 94 = .ok (.aload_n 0, 1) := by decide +kernel
theorem dX7_reckon_95 : decode cX7_reckon 95 = .ok (.lload 4, 2) := by decide +kernel
theorem dX7_reckon_97 : decode cX7_reckon 97 = .ok (.lload_n 2, 1) := by decide +kernel
theorem dX7_reckon_98 : decode cX7_reckon 98 = .ok (.lmul, 1) := by decide +kernel
theorem dX7_reckon_99 : decode cX7_reckon 99 = .ok (.invokevirtual 166, 3) := by decide +kernel
theorem dX7_reckon_102 : decode cX7_reckon 102 = .ok (.goto 60, 3) := by decide +kernel
theorem dX7_reckon_105 : decode cX7_reckon 105 = .ok (.aload_n 0, 1) := by decide +kernel
theorem dX7_reckon_106 : decode cX7_reckon 106 = .ok (.lload 4, 2) := by decide +kernel
theorem dX7_reckon_108 : decode cX7_reckon 108 = .ok (.lload_n 2, 1) := by decide +kernel
theorem dX7_reckon_109 : decode cX7_reckon 109 = .ok (.ldiv, 1) := by decide +kernel
theorem dX7_reckon_110 : decode cX7_reckon 110 = .ok (.invokevirtual 166, 3) := by decide +kernel
theorem dX7_reckon_113 : decode cX7_reckon 113 = .ok (.goto 49, 3) := by decide +kernel
theorem dX7_reckon_116 : decode cX7_reckon 116 = .ok (.aload_n 0, 1) := by decide +kernel
theorem dX7_reckon_117 : decode cX7_reckon 117 = .ok (.lload 4, 2) := by decide +kernel
theorem dX7_reckon_119 : decode cX7_reckon 119 = .ok (.lload_n 2, 1) := by decide +kernel
theorem dX7_reckon_120 : decode cX7_reckon 120 = .ok (.lrem, 1) := by decide +kernel
theorem dX7_reckon_121 : decode cX7_reckon 121 = .ok (.invokevirtual 166, 3) := by decide +kernel
theorem dX7_reckon_124 : decode cX7_reckon 124 = .ok (.goto 38, 3) := by decide +kernel
theorem dX7_reckon_127 : decode cX7_reckon 127 = .ok (.aload_n 0, 1) := by decide +kernel
theorem dX7_reckon_128 : decode cX7_reckon 128 = .ok (.lload 4, 2) := by decide +kernel
theorem dX7_reckon_130 : decode cX7_reckon 130 = .ok (.lload_n 2, 1) := by decide +kernel
theorem dX7_reckon_131 : decode cX7_reckon 131 = .ok (.lcmp, 1) := by decide +kernel
theorem dX7_reckon_132 : decode cX7_reckon 132 = .ok (.ifCond .ge 7, 3) := by decide +kernel
theorem dX7_reckon_135 : decode cX7_reckon 135 = .ok (.lconst 1, 1) := by decide +kernel
theorem dX7_reckon_136 : decode cX7_reckon 136 = .ok (.goto 4, 3) := by decide +kernel
theorem dX7_reckon_139 : decode cX7_reckon 139 = .ok (.lconst 0, 1) := by decide +kernel
theorem dX7_reckon_140 : decode cX7_reckon 140 = .ok (.invokevirtual 166, 3) := by decide +kernel
theorem dX7_reckon_143 : decode cX7_reckon 143 = .ok (.goto 19, 3) := by decide +kernel
theorem dX7_reckon_146 : decode cX7_reckon 146 = .ok (.aload_n 0, 1) := by decide +kernel
theorem dX7_reckon_147 : decode cX7_reckon 147 = .ok (.lload 4, 2) := by decide +kernel
theorem dX7_reckon_149 : decode cX7_reckon 149 = .ok (.lload_n 2, 1) := by decide +kernel
theorem dX7_reckon_150 : decode cX7_reckon 150 = .ok (.lcmp, 1) := by decide +kernel
theorem dX7_reckon_151 : decode cX7_reckon 151 = .ok (.ifCond .ne 7, 3) := by decide +kernel
theorem dX7_reckon_154 : decode cX7_reckon 154 = .ok (.lconst 1, 1) := by decide +kernel
theorem dX7_reckon_155 : decode cX7_reckon 155 = .ok (.goto 4, 3) := by decide +kernel
theorem dX7_reckon_158 : decode cX7_reckon 158 = .ok (.lconst 0, 1) := by decide +kernel
theorem dX7_reckon_159 : decode cX7_reckon 159 = .ok (.invokevirtual 166, 3) := by decide +kernel
theorem dX7_reckon_162 : decode cX7_reckon 162 = .ok (.iconst 0, 1) := by decide +kernel
theorem dX7_reckon_163 : decode cX7_reckon 163 = .ok (.ireturn, 1) := by decide +kernel
theorem dX7_other_0 : decode cX7_other 0 = .ok (.iload_n 1, 1) := by decide +kernel
theorem dX7_other_1 : decode cX7_other 1 = .ok (.tableswitch 170 12 17 #[39, 170, 170, 56, 100, 121], 39) := by decide +kernel
theorem dX7_other_40 : decode cX7_other 40 = .ok (.aload_n 0, 1) := by decide +kernel
theorem dX7_other_41 : decode cX7_other 41 = .ok (.aload_n 0, 1) := by decide +kernel
theorem dX7_other_42 : decode cX7_other 42 = .ok (.getfield 76, 3) := by decide +kernel
theorem dX7_other_45 : decode cX7_other 45 = .ok (.aload_n 0, 1) := by decide +kernel
theorem dX7_other_46 : decode cX7_other 46 = .ok (.getfield 139, 3) := by decide +kernel
theorem dX7_other_49 : decode cX7_other 49 = .ok (.iconst 1, 1) := by decide +kernel
theorem dX7_other_50 : decode cX7_other 50 = .ok (.isub, 1) := by decide +kernel
theorem dX7_other_51 : decode cX7_other 51 = .ok (.laload, 1) := by decide +kernel
theorem dX7_other_52 : decode cX7_other 52 = .ok (.invokevirtual 166, 3) := by decide +kernel
theorem dX7_other_55 : decode cX7_other 55 = .ok (.iconst 0, 1) := by decide +kernel
theorem dX7_other_56 : decode cX7_other 56 = .ok (.ireturn, 1) := by decide +kernel
theorem dX7_other_57 : decode cX7_other 57 = .ok (.aload_n 0, 1) := by decide +kernel
theorem dX7_other_58 : decode cX7_other 58 = .ok (.invokevirtual 151, 3) := by decide +kernel
theorem dX7_other_61 : decode cX7_other 61 = .ok (.lstore 5, 2) := by decide +kernel
theorem dX7_other_63 : decode cX7_other 63 = .ok (.lload 5, 2) := by decide +kernel
theorem dX7_other_65 : decode cX7_other 65 = .ok (.lconst 0, 1) := by decide +kernel
theorem dX7_other_66 : decode cX7_other 66 = .ok (.lcmp, 1) := by decide +kernel
theorem dX7_other_67 : decode cX7_other 67 = .ok (.ifCond .lt 12, 3) := by decide +kernel
theorem dX7_other_70 : decode cX7_other 70 = .ok (.lload 5, 2) := by decide +kernel
theorem dX7_other_72 : decode cX7_other 72 = .ok (.ldc2_w 170, 3) := by decide +kernel
theorem dX7_other_75 : decode cX7_other 75 = .ok (.lcmp, 1) := by decide +kernel
theorem dX7_other_76 : decode cX7_other 76 = .ok (.ifCond .le 5, 3) := by decide +kernel
theorem dX7_other_79 : decode cX7_other 79 = .ok (.iconst 2, 1) := by decide +kernel
theorem dX7_other_80 : decode cX7_other 80 = .ok (.ireturn, 1) := by decide +kernel
theorem dX7_other_81 : decode cX7_other 81 = .ok (.aload_n 0, 1) := by decide +kernel
theorem dX7_other_82 : decode cX7_other 82 = .ok (.aload_n 0, 1) := by decide +kernel
theorem dX7_other_83 : decode cX7_other 83 = .ok (.getfield 64, 3) := by decide +kernel
theorem dX7_other_86 : decode cX7_other 86 = .ok (.bipush 8, 2) := by decide +kernel
theorem dX7_other_88 : decode cX7_other 88 = .ok (.iload 4, 2) := by decide +kernel
theorem dX7_other_90 : decode cX7_other 90 = .ok (.imul, 1) := by decide +kernel
theorem dX7_other_91 : decode cX7_other 91 = .ok (.lload 5, 2) := by decide +kernel
theorem dX7_other_93 : decode cX7_other 93 = .ok (.l2i, 1) := by decide +kernel
theorem dX7_other_94 : decode cX7_other 94 = .ok (.iadd, 1) := by decide +kernel
theorem dX7_other_95 : decode cX7_other 95 = .ok (.laload, 1) := by decide +kernel
theorem dX7_other_96 : decode cX7_other 96 = .ok (.invokevirtual 166, 3) := by decide +kernel
theorem dX7_other_99 : decode cX7_other 99 = .ok (.iconst 0, 1) := by decide +kernel
theorem dX7_other_100 : decode cX7_other 100 = .ok (.ireturn, 1) := by decide +kernel
theorem dX7_other_101 : decode cX7_other 101 = .ok (.aload_n 0, 1) := by decide +kernel
theorem dX7_other_102 : decode cX7_other 102 = .ok (.getfield 70, 3) := by decide +kernel
theorem dX7_other_105 : decode cX7_other 105 = .ok (.iload 4, 2) := by decide +kernel
theorem dX7_other_107 : decode cX7_other 107 = .ok (.iload_n 2, 1) := by decide +kernel
theorem dX7_other_108 : decode cX7_other 108 = .ok (.iastore, 1) := by decide +kernel
theorem dX7_other_109 : decode cX7_other 109 = .ok (.aload_n 0, 1) := by decide +kernel
theorem dX7_other_110 : decode cX7_other 110 = .ok (.getfield 73, 3) := by decide +kernel
theorem dX7_other_113 : decode cX7_other 113 = .ok (.iload 4, 2) := by decide +kernel
theorem dX7_other_115 : decode cX7_other 115 = .ok (.aload_n 0, 1) := by decide +kernel
theorem dX7_other_116 : decode cX7_other 116 = .ok (.getfield 142, 3) := by decide +kernel
theorem dX7_other_119 : decode cX7_other 119 = .ok (.iastore, 1) := by decide +kernel
theorem dX7_other_120 : decode cX7_other 120 = .ok (.iconst 0, 1) := by decide +kernel
theorem dX7_other_121 : decode cX7_other 121 = .ok (.ireturn, 1) := by decide +kernel
theorem dX7_other_122 : decode cX7_other 122 = .ok (.aload_n 0, 1) := by decide +kernel
theorem dX7_other_123 : decode cX7_other 123 = .ok (.getfield 70, 3) := by decide +kernel
theorem dX7_other_126 : decode cX7_other 126 = .ok (.iload 4, 2) := by decide +kernel
theorem dX7_other_128 : decode cX7_other 128 = .ok (.iaload, 1) := by decide +kernel
theorem dX7_other_129 : decode cX7_other 129 = .ok (.ifCond .lt 17, 3) := by decide +kernel
theorem dX7_other_132 : decode cX7_other 132 = .ok (.aload_n 0, 1) := by decide +kernel
theorem dX7_other_133 : decode cX7_other 133 = .ok (.getfield 73, 3) := by decide +kernel
theorem dX7_other_136 : decode cX7_other 136 = .ok (.iload 4, 2) := by decide +kernel
theorem dX7_other_138 : decode cX7_other 138 = .ok (.iaload, 1) := by decide +kernel
theorem dX7_other_139 : decode cX7_other 139 = .ok (.aload_n 0, 1) := by decide +kernel
theorem dX7_other_140 : decode cX7_other 140 = .ok (.getfield 142, 3) := by decide +kernel
theorem dX7_other_143 : decode cX7_other 143 = .ok (.if_icmp .eq 5, 3) := by decide +kernel
theorem dX7_other_146 : decode cX7_other 146 = .ok (.iconst 5, 1) := by decide +kernel
theorem dX7_other_147 : decode cX7_other 147 = .ok (.ireturn, 1) := by decide +kernel
theorem dX7_other_148 : decode cX7_other 148 = .ok (.aload_n 0, 1) := by decide +kernel
theorem dX7_other_149 : decode cX7_other 149 = .ok (.aload_n 0, 1) := by decide +kernel
theorem dX7_other_150 : decode cX7_other 150 = .ok (.getfield 35, 3) := by decide +kernel
theorem dX7_other_153 : decode cX7_other 153 = .ok (.bipush 8, 2) := by decide +kernel
theorem dX7_other_155 : decode cX7_other 155 = .ok (.iload_n 3, 1) := by decide +kernel
theorem dX7_other_156 : decode cX7_other 156 = .ok (.imul, 1) := by decide +kernel
theorem dX7_other_157 : decode cX7_other 157 = .ok (.aload_n 0, 1) := by decide +kernel
theorem dX7_other_158 : decode cX7_other 158 = .ok (.getfield 70, 3) := by decide +kernel
theorem dX7_other_161 : decode cX7_other 161 = .ok (.iload 4, 2) := by decide +kernel
theorem dX7_other_163 : decode cX7_other 163 = .ok (.iaload, 1) := by decide +kernel
theorem dX7_other_164 : decode cX7_other 164 = .ok (.iadd, 1) := by decide +kernel
theorem dX7_other_165 : decode cX7_other 165 = .ok (.laload, 1) := by decide +kernel
theorem dX7_other_166 : decode cX7_other 166 = .ok (.invokevirtual 166, 3) := by decide +kernel
theorem dX7_other_169 : decode cX7_other 169 = .ok (.iconst 0, 1) := by decide +kernel
theorem dX7_other_170 : decode cX7_other 170 = .ok (.ireturn, 1) := by decide +kernel
theorem dX7_other_171 : decode cX7_other 171 = .ok (.aload_n 0, 1) := by decide +kernel
theorem dX7_other_172 : decode cX7_other 172 = .ok (.iload_n 2, 1) := by decide +kernel
theorem dX7_other_173 : decode cX7_other 173 = .ok (.sipush 255, 3) := by decide +kernel
theorem dX7_other_176 : decode cX7_other 176 = .ok (.iand, 1) := by decide +kernel
theorem dX7_other_177 : decode cX7_other 177 = .ok (.putfield 148, 3) := by decide +kernel
theorem dX7_other_180 : decode cX7_other 180 = .ok (.bipush 6, 2) := by decide +kernel
theorem dX7_other_182 : decode cX7_other 182 = .ok (.ireturn, 1) := by decide +kernel
theorem dX7_tell_0 : decode cX7_tell 0 = .ok (.aload_n 0, 1) := by decide +kernel
theorem dX7_tell_1 : decode cX7_tell 1 = .ok (.getfield 46, 3) := by decide +kernel
theorem dX7_tell_4 : decode cX7_tell 4 = .ok (.iload_n 1, 1) := by decide +kernel
theorem dX7_tell_5 : decode cX7_tell 5 = .ok (.iload_n 3, 1) := by decide +kernel
theorem dX7_tell_6 : decode cX7_tell 6 = .ok (.iastore, 1) := by decide +kernel
theorem dX7_tell_7 : decode cX7_tell 7 = .ok (.aload_n 0, 1) := by decide +kernel
theorem dX7_tell_8 : decode cX7_tell 8 = .ok (.getfield 49, 3) := by decide +kernel
theorem dX7_tell_11 : decode cX7_tell 11 = .ok (.iload_n 1, 1) := by decide +kernel
theorem dX7_tell_12 : decode cX7_tell 12 = .ok (.iload_n 2, 1) := by decide +kernel
theorem dX7_tell_13 : decode cX7_tell 13 = .ok (.iastore, 1) := by decide +kernel
theorem dX7_tell_14 : decode cX7_tell 14 = .ok (.aload_n 0, 1) := by decide +kernel
theorem dX7_tell_15 : decode cX7_tell 15 = .ok (.getfield 52, 3) := by decide +kernel
theorem dX7_tell_18 : decode cX7_tell 18 = .ok (.iload_n 1, 1) := by decide +kernel
theorem dX7_tell_19 : decode cX7_tell 19 = .ok (.aload_n 0, 1) := by decide +kernel
theorem dX7_tell_20 : decode cX7_tell 20 = .ok (.getfield 145, 3) := by decide +kernel
theorem dX7_tell_23 : decode cX7_tell 23 = .ok (.iastore, 1) := by decide +kernel
theorem dX7_tell_24 : decode cX7_tell 24 = .ok (.aload_n 0, 1) := by decide +kernel
theorem dX7_tell_25 : decode cX7_tell 25 = .ok (.getfield 55, 3) := by decide +kernel
theorem dX7_tell_28 : decode cX7_tell 28 = .ok (.iload_n 1, 1) := by decide +kernel
theorem dX7_tell_29 : decode cX7_tell 29 = .ok (.iload_n 3, 1) := by decide +kernel
theorem dX7_tell_30 : decode cX7_tell 30 = .ok (.bipush 6, 2) := by decide +kernel
theorem dX7_tell_32 : decode cX7_tell 32 = .ok (.if_icmp .ne 10, 3) := by decide +kernel
theorem dX7_tell_35 : decode cX7_tell 35 = .ok (.aload_n 0, 1) := by decide +kernel
theorem dX7_tell_36 : decode cX7_tell 36 = .ok (.getfield 148, 3) := by decide +kernel
theorem dX7_tell_39 : decode cX7_tell 39 = .ok (.goto 4, 3) := by decide +kernel
theorem dX7_tell_42 : decode cX7_tell 42 = .ok (.iconst 0, 1) := by decide +kernel
theorem dX7_tell_43 : decode cX7_tell 43 = .ok (.iastore, 1) := by decide +kernel
theorem dX7_tell_44 : decode cX7_tell 44 = .ok (.aload_n 0, 1) := by decide +kernel
theorem dX7_tell_45 : decode cX7_tell 45 = .ok (.getfield 58, 3) := by decide +kernel
theorem dX7_tell_48 : decode cX7_tell 48 = .ok (.iload_n 1, 1) := by decide +kernel
theorem dX7_tell_49 : decode cX7_tell 49 = .ok (.dup2, 1) := by decide +kernel
theorem dX7_tell_50 : decode cX7_tell 50 = .ok (.iaload, 1) := by decide +kernel
theorem dX7_tell_51 : decode cX7_tell 51 = .ok (.iconst 1, 1) := by decide +kernel
theorem dX7_tell_52 : decode cX7_tell 52 = .ok (.iadd, 1) := by decide +kernel
theorem dX7_tell_53 : decode cX7_tell 53 = .ok (.iastore, 1) := by decide +kernel
theorem dX7_tell_54 : decode cX7_tell 54 = .ok (.return_, 1) := by decide +kernel
theorem dX7_power_0 : decode cX7_power 0 = .ok (.aload_n 0, 1) := by decide +kernel
theorem dX7_power_1 : decode cX7_power 1 = .ok (.iconst 0, 1) := by decide +kernel
theorem dX7_power_2 : decode cX7_power 2 = .ok (.putfield 90, 3) := by decide +kernel
theorem dX7_power_5 : decode cX7_power 5 = .ok (.aload_n 0, 1) := by decide +kernel
theorem dX7_power_6 : decode cX7_power 6 = .ok (.iload_n 1, 1) := by decide +kernel
theorem dX7_power_7 : decode cX7_power 7 = .ok (.invokevirtual 126, 3) := by decide +kernel
theorem dX7_power_10 : decode cX7_power 10 = .ok (.ifCond .ne 9, 3) := by decide +kernel
theorem dX7_power_13 : decode cX7_power 13 = .ok (.aload_n 0, 1) := by decide +kernel
theorem dX7_power_14 : decode cX7_power 14 = .ok (.iconst (-1), 1) := by decide +kernel
theorem dX7_power_15 : decode cX7_power 15 = .ok (.invokevirtual 100, 3) := by decide +kernel
theorem dX7_power_18 : decode cX7_power 18 = .ok (.ireturn, 1) := by decide +kernel
theorem dX7_power_19 : decode cX7_power 19 = .ok (.aload_n 0, 1) := by decide +kernel
theorem dX7_power_20 : decode cX7_power 20 = .ok (.getfield 39, 3) := by decide +kernel
theorem dX7_power_23 : decode cX7_power 23 = .ok (.iload_n 1, 1) := by decide +kernel
theorem dX7_power_24 : decode cX7_power 24 = .ok (.baload, 1) := by decide +kernel
theorem dX7_power_25 : decode cX7_power 25 = .ok (.ifCond .eq 10, 3) := by decide +kernel
theorem dX7_power_28 : decode cX7_power 28 = .ok (.aload_n 0, 1) := by decide +kernel
theorem dX7_power_29 : decode cX7_power 29 = .ok (.bipush (-3), 2) := by decide +kernel
theorem dX7_power_31 : decode cX7_power 31 = .ok (.invokevirtual 100, 3) := by decide +kernel
theorem dX7_power_34 : decode cX7_power 34 = .ok (.ireturn, 1) := by decide +kernel
theorem dX7_power_35 : decode cX7_power 35 = .ok (.iconst 1, 1) := by decide +kernel
theorem dX7_power_36 : decode cX7_power 36 = .ok (.istore_n 2, 1) := by decide +kernel
theorem dX7_power_37 : decode cX7_power 37 = .ok (.iload_n 2, 1) := by decide +kernel
theorem dX7_power_38 : decode cX7_power 38 = .ok (.aload_n 0, 1) := by decide +kernel
theorem dX7_power_39 : decode cX7_power 39 = .ok (.getfield 107, 3) := by decide +kernel
theorem dX7_power_42 : decode cX7_power 42 = .ok (.if_icmp .gt 120, 3) := by decide +kernel
theorem dX7_power_45 : decode cX7_power 45 = .ok (.iload_n 1, 1) := by decide +kernel
theorem dX7_power_46 : decode cX7_power 46 = .ok (.iload_n 2, 1) := by decide +kernel
theorem dX7_power_47 : decode cX7_power 47 = .ok (.invokestatic 132, 3) := by decide +kernel
theorem dX7_power_50 : decode cX7_power 50 = .ok (.istore_n 3, 1) := by decide +kernel
theorem dX7_power_51 : decode cX7_power 51 = .ok (.aload_n 0, 1) := by decide +kernel
theorem dX7_power_52 : decode cX7_power 52 = .ok (.getfield 61, 3) := by decide +kernel
theorem dX7_power_55 : decode cX7_power 55 = .ok (.iload_n 3, 1) := by decide +kernel
theorem dX7_power_56 : decode cX7_power 56 = .ok (.iaload, 1) := by decide +kernel
theorem dX7_power_57 : decode cX7_power 57 = .ok (.ifCond .eq 99, 3) := by decide +kernel
theorem dX7_power_60 : decode cX7_power 60 = .ok (.aload_n 0, 1) := by decide +kernel
theorem dX7_power_61 : decode cX7_power 61 = .ok (.getfield 61, 3) := by decide +kernel
theorem dX7_power_64 : decode cX7_power 64 = .ok (.iload_n 3, 1) := by decide +kernel
theorem dX7_power_65 : decode cX7_power 65 = .ok (.iaload, 1) := by decide +kernel
theorem dX7_power_66 : decode cX7_power 66 = .ok (.aload_n 0, 1) := by decide +kernel
theorem dX7_power_67 : decode cX7_power 67 = .ok (.getfield 13, 3) := by decide +kernel
theorem dX7_power_70 : decode cX7_power 70 = .ok (.iload_n 2, 1) := by decide +kernel
theorem dX7_power_71 : decode cX7_power 71 = .ok (.iaload, 1) := by decide +kernel
theorem dX7_power_72 : decode cX7_power 72 = .ok (.if_icmp .ne 84, 3) := by decide +kernel
theorem dX7_power_75 : decode cX7_power 75 = .ok (.aload_n 0, 1) := by decide +kernel
theorem dX7_power_76 : decode cX7_power 76 = .ok (.getfield 23, 3) := by decide +kernel
theorem dX7_power_79 : decode cX7_power 79 = .ok (.iload_n 2, 1) := by decide +kernel
theorem dX7_power_80 : decode cX7_power 80 = .ok (.aload_n 0, 1) := by decide +kernel
theorem dX7_power_81 : decode cX7_power 81 = .ok (.getfield 61, 3) := by decide +kernel
theorem dX7_power_84 : decode cX7_power 84 = .ok (.iload_n 3, 1) := by decide +kernel
theorem dX7_power_85 : decode cX7_power 85 = .ok (.iaload, 1) := by decide +kernel
theorem dX7_power_86 : decode cX7_power 86 = .ok (.invokestatic 118, 3) := by decide +kernel
theorem dX7_power_89 : decode cX7_power 89 = .ok (.iaload, 1) := by decide +kernel
theorem dX7_power_90 : decode cX7_power 90 = .ok (.ifCond .ge 6, 3) := by decide +kernel
theorem dX7_power_93 : decode cX7_power 93 = .ok (.goto 63, 3) := by decide +kernel
theorem dX7_power_96 : decode cX7_power 96 = .ok (.aload_n 0, 1) := by decide +kernel
theorem dX7_power_97 : decode cX7_power 97 = .ok (.iload_n 1, 1) := by decide +kernel
theorem dX7_power_98 : decode cX7_power 98 = .ok (.iload_n 2, 1) := by decide +kernel
theorem dX7_power_99 : decode cX7_power 99 = .ok (.aload_n 0, 1) := by decide +kernel
theorem dX7_power_100 : decode cX7_power 100 = .ok (.getfield 23, 3) := by decide +kernel
theorem dX7_power_103 : decode cX7_power 103 = .ok (.iload_n 2, 1) := by decide +kernel
theorem dX7_power_104 : decode cX7_power 104 = .ok (.aload_n 0, 1) := by decide +kernel
theorem dX7_power_105 : decode cX7_power 105 = .ok (.getfield 61, 3) := by decide +kernel
theorem dX7_power_108 : decode cX7_power 108 = .ok (.iload_n 3, 1) := by decide +kernel
theorem dX7_power_109 : decode cX7_power 109 = .ok (.iaload, 1) := by decide +kernel
theorem dX7_power_110 : decode cX7_power 110 = .ok (.invokestatic 118, 3) := by decide +kernel
theorem dX7_power_113 : decode cX7_power 113 = .ok (.iaload, 1) := by decide +kernel
theorem dX7_power_114 : decode cX7_power 114 = .ok (.aload_n 0, 1) := by decide +kernel
theorem dX7_power_115 : decode cX7_power 115 = .ok (.getfield 26, 3) := by decide +kernel
theorem dX7_power_118 : decode cX7_power 118 = .ok (.iload_n 2, 1) := by decide +kernel
theorem dX7_power_119 : decode cX7_power 119 = .ok (.aload_n 0, 1) := by decide +kernel
theorem dX7_power_120 : decode cX7_power 120 = .ok (.getfield 61, 3) := by decide +kernel
theorem dX7_power_123 : decode cX7_power 123 = .ok (.iload_n 3, 1) := by decide +kernel
theorem dX7_power_124 : decode cX7_power 124 = .ok (.iaload, 1) := by decide +kernel
theorem dX7_power_125 : decode cX7_power 125 = .ok (.invokestatic 118, 3) := by decide +kernel
theorem dX7_power_128 : decode cX7_power 128 = .ok (.iaload, 1) := by decide +kernel
theorem dX7_power_129 : decode cX7_power 129 = .ok (.invokevirtual 172, 3) := by decide +kernel
theorem dX7_power_132 : decode cX7_power 132 = .ok (.istore 4, 2) := by decide +kernel
theorem dX7_power_134 : decode cX7_power 134 = .ok (.iload 4, 2) := by decide +kernel
theorem dX7_power_136 : decode cX7_power 136 = .ok (.ifCond .ne 6, 3) := by decide +kernel
theorem dX7_power_139 : decode cX7_power 139 = .ok (.goto 17, 3) := by decide +kernel
theorem dX7_power_142 : decode cX7_power 142 = .ok (.aload_n 0, 1) := by decide +kernel
theorem dX7_power_143 : decode cX7_power 143 = .ok (.iload_n 1, 1) := by decide +kernel
theorem dX7_power_144 : decode cX7_power 144 = .ok (.iload_n 2, 1) := by decide +kernel
theorem dX7_power_145 : decode cX7_power 145 = .ok (.iload 4, 2) := by decide +kernel
theorem dX7_power_147 : decode cX7_power 147 = .ok (.invokevirtual 175, 3) := by decide +kernel
theorem dX7_power_150 : decode cX7_power 150 = .ok (.bipush 10, 2) := by decide +kernel
theorem dX7_power_152 : decode cX7_power 152 = .ok (.iload 4, 2) := by decide +kernel
theorem dX7_power_154 : decode cX7_power 154 = .ok (.iadd, 1) := by decide +kernel
theorem dX7_power_155 : decode cX7_power 155 = .ok (.ireturn, 1) := by decide +kernel
theorem dX7_power_156 : decode cX7_power 156 = .ok (.iinc 2 1, 3) := by decide +kernel
theorem dX7_power_159 : decode cX7_power 159 = .ok (.goto (-122), 3) := by decide +kernel
theorem dX7_power_162 : decode cX7_power 162 = .ok (.aload_n 0, 1) := by decide +kernel
theorem dX7_power_163 : decode cX7_power 163 = .ok (.getfield 39, 3) := by decide +kernel
theorem dX7_power_166 : decode cX7_power 166 = .ok (.iload_n 1, 1) := by decide +kernel
theorem dX7_power_167 : decode cX7_power 167 = .ok (.iconst 1, 1) := by decide +kernel
theorem dX7_power_168 : decode cX7_power 168 = .ok (.bastore, 1) := by decide +kernel
theorem dX7_power_169 : decode cX7_power 169 = .ok (.iconst 1, 1) := by decide +kernel
theorem dX7_power_170 : decode cX7_power 170 = .ok (.ireturn, 1) := by decide +kernel
theorem dX7_barred_0 : decode cX7_barred 0 = .ok (.aload_n 0, 1) := by decide +kernel
theorem dX7_barred_1 : decode cX7_barred 1 = .ok (.iload_n 1, 1) := by decide +kernel
theorem dX7_barred_2 : decode cX7_barred 2 = .ok (.invokevirtual 126, 3) := by decide +kernel
theorem dX7_barred_5 : decode cX7_barred 5 = .ok (.ifCond .eq 11, 3) := by decide +kernel
theorem dX7_barred_8 : decode cX7_barred 8 = .ok (.aload_n 0, 1) := by decide +kernel
theorem dX7_barred_9 : decode cX7_barred 9 = .ok (.iload_n 2, 1) := by decide +kernel
theorem dX7_barred_10 : decode cX7_barred 10 = .ok (.invokevirtual 129, 3) := by decide +kernel
theorem dX7_barred_13 : decode cX7_barred 13 = .ok (.ifCond .ne 5, 3) := by decide +kernel
theorem dX7_barred_16 : decode cX7_barred 16 = .ok (.iconst (-1), 1) := by decide +kernel
theorem dX7_barred_17 : decode cX7_barred 17 = .ok (.ireturn, 1) := by decide +kernel
theorem dX7_barred_18 : decode cX7_barred 18 = .ok (.iload_n 1, 1) := by decide +kernel
theorem dX7_barred_19 : decode cX7_barred 19 = .ok (.iload_n 2, 1) := by decide +kernel
theorem dX7_barred_20 : decode cX7_barred 20 = .ok (.invokestatic 132, 3) := by decide +kernel
theorem dX7_barred_23 : decode cX7_barred 23 = .ok (.istore_n 3, 1) := by decide +kernel
theorem dX7_barred_24 : decode cX7_barred 24 = .ok (.aload_n 0, 1) := by decide +kernel
theorem dX7_barred_25 : decode cX7_barred 25 = .ok (.getfield 39, 3) := by decide +kernel
theorem dX7_barred_28 : decode cX7_barred 28 = .ok (.iload_n 1, 1) := by decide +kernel
theorem dX7_barred_29 : decode cX7_barred 29 = .ok (.baload, 1) := by decide +kernel
theorem dX7_barred_30 : decode cX7_barred 30 = .ok (.ifCond .eq 36, 3) := by decide +kernel
theorem dX7_barred_33 : decode cX7_barred 33 = .ok (.aload_n 0, 1) := by decide +kernel
theorem dX7_barred_34 : decode cX7_barred 34 = .ok (.getfield 61, 3) := by decide +kernel
theorem dX7_barred_37 : decode cX7_barred 37 = .ok (.iload_n 3, 1) := by decide +kernel
theorem dX7_barred_38 : decode cX7_barred 38 = .ok (.iaload, 1) := by decide +kernel
theorem dX7_barred_39 : decode cX7_barred 39 = .ok (.ifCond .eq 27, 3) := by decide +kernel
theorem dX7_barred_42 : decode cX7_barred 42 = .ok (.aload_n 0, 1) := by decide +kernel
theorem dX7_barred_43 : decode cX7_barred 43 = .ok (.getfield 67, 3) := by decide +kernel
theorem dX7_barred_46 : decode cX7_barred 46 = .ok (.iload_n 3, 1) := by decide +kernel
theorem dX7_barred_47 : decode cX7_barred 47 = .ok (.baload, 1) := by decide +kernel
theorem dX7_barred_48 : decode cX7_barred 48 = .ok (.ifCond .ne 18, 3) := by decide +kernel
theorem dX7_barred_51 : decode cX7_barred 51 = .ok (.aload_n 0, 1) := by decide +kernel
theorem dX7_barred_52 : decode cX7_barred 52 = .ok (.getfield 61, 3) := by decide +kernel
theorem dX7_barred_55 : decode cX7_barred 55 = .ok (.iload_n 3, 1) := by decide +kernel
theorem dX7_barred_56 : decode cX7_barred 56 = .ok (.iaload, 1) := by decide +kernel
theorem dX7_barred_57 : decode cX7_barred 57 = .ok (.aload_n 0, 1) := by decide +kernel
theorem dX7_barred_58 : decode cX7_barred 58 = .ok (.getfield 13, 3) := by decide +kernel
theorem dX7_barred_61 : decode cX7_barred 61 = .ok (.iload_n 2, 1) := by decide +kernel
theorem dX7_barred_62 : decode cX7_barred 62 = .ok (.iaload, 1) := by decide +kernel
theorem dX7_barred_63 : decode cX7_barred 63 = .ok (.if_icmp .eq 8, 3) := by decide +kernel
theorem dX7_barred_66 : decode cX7_barred 66 = .ok (.bipush (-3), 2) := by decide +kernel
theorem dX7_barred_68 : decode cX7_barred 68 = .ok (.goto 4, 3) := by decide +kernel
theorem dX7_barred_71 : decode cX7_barred 71 = .ok (.iconst 0, 1) := by decide +kernel
theorem dX7_barred_72 : decode cX7_barred 72 = .ok (.ireturn, 1) := by decide +kernel
theorem dX7_runMember_0 : decode cX7_runMember 0 = .ok (.iload_n 2, 1) := by decide +kernel
theorem dX7_runMember_1 : decode cX7_runMember 1 = .ok (.aload_n 0, 1) := by decide +kernel
theorem dX7_runMember_2 : decode cX7_runMember 2 = .ok (.getfield 61, 3) := by decide +kernel
theorem dX7_runMember_5 : decode cX7_runMember 5 = .ok (.iload_n 1, 1) := by decide +kernel
theorem dX7_runMember_6 : decode cX7_runMember 6 = .ok (.iload_n 2, 1) := by decide +kernel
theorem dX7_runMember_7 : decode cX7_runMember 7 = .ok (.invokestatic 132, 3) := by decide +kernel
theorem dX7_runMember_10 : decode cX7_runMember 10 = .ok (.iaload, 1) := by decide +kernel
theorem dX7_runMember_11 : decode cX7_runMember 11 = .ok (.invokestatic 118, 3) := by decide +kernel
theorem dX7_runMember_14 : decode cX7_runMember 14 = .ok (.istore_n 3, 1) := by decide +kernel
theorem dX7_runMember_15 : decode cX7_runMember 15 = .ok (.aload_n 0, 1) := by decide +kernel
theorem dX7_runMember_16 : decode cX7_runMember 16 = .ok (.iload_n 1, 1) := by decide +kernel
theorem dX7_runMember_17 : decode cX7_runMember 17 = .ok (.iload_n 2, 1) := by decide +kernel
theorem dX7_runMember_18 : decode cX7_runMember 18 = .ok (.aload_n 0, 1) := by decide +kernel
theorem dX7_runMember_19 : decode cX7_runMember 19 = .ok (.getfield 29, 3) := by decide +kernel
theorem dX7_runMember_22 : decode cX7_runMember 22 = .ok (.iload_n 3, 1) := by decide +kernel
theorem dX7_runMember_23 : decode cX7_runMember 23 = .ok (.iaload, 1) := by decide +kernel
theorem dX7_runMember_24 : decode cX7_runMember 24 = .ok (.aload_n 0, 1) := by decide +kernel
theorem dX7_runMember_25 : decode cX7_runMember 25 = .ok (.getfield 32, 3) := by decide +kernel
theorem dX7_runMember_28 : decode cX7_runMember 28 = .ok (.iload_n 3, 1) := by decide +kernel
theorem dX7_runMember_29 : decode cX7_runMember 29 = .ok (.iaload, 1) := by decide +kernel
theorem dX7_runMember_30 : decode cX7_runMember 30 = .ok (.invokevirtual 172, 3) := by decide +kernel
theorem dX7_runMember_33 : decode cX7_runMember 33 = .ok (.ireturn, 1) := by decide +kernel
theorem dX7_run_0 : decode cX7_run 0 = .ok (.aload_n 0, 1) := by decide +kernel
theorem dX7_run_1 : decode cX7_run 1 = .ok (.iconst 0, 1) := by decide +kernel
theorem dX7_run_2 : decode cX7_run 2 = .ok (.putfield 90, 3) := by decide +kernel
theorem dX7_run_5 : decode cX7_run 5 = .ok (.aload_n 0, 1) := by decide +kernel
theorem dX7_run_6 : decode cX7_run 6 = .ok (.iload_n 1, 1) := by decide +kernel
theorem dX7_run_7 : decode cX7_run 7 = .ok (.iload_n 2, 1) := by decide +kernel
theorem dX7_run_8 : decode cX7_run 8 = .ok (.invokevirtual 178, 3) := by decide +kernel
theorem dX7_run_11 : decode cX7_run 11 = .ok (.istore_n 3, 1) := by decide +kernel
theorem dX7_run_12 : decode cX7_run 12 = .ok (.iload_n 3, 1) := by decide +kernel
theorem dX7_run_13 : decode cX7_run 13 = .ok (.ifCond .ge 9, 3) := by decide +kernel
theorem dX7_run_16 : decode cX7_run 16 = .ok (.aload_n 0, 1) := by decide +kernel
theorem dX7_run_17 : decode cX7_run 17 = .ok (.iload_n 3, 1) := by decide +kernel
theorem dX7_run_18 : decode cX7_run 18 = .ok (.invokevirtual 100, 3) := by decide +kernel
theorem dX7_run_21 : decode cX7_run 21 = .ok (.ireturn, 1) := by decide +kernel
theorem dX7_run_22 : decode cX7_run 22 = .ok (.aload_n 0, 1) := by decide +kernel
theorem dX7_run_23 : decode cX7_run 23 = .ok (.iload_n 1, 1) := by decide +kernel
theorem dX7_run_24 : decode cX7_run 24 = .ok (.iload_n 2, 1) := by decide +kernel
theorem dX7_run_25 : decode cX7_run 25 = .ok (.invokevirtual 181, 3) := by decide +kernel
theorem dX7_run_28 : decode cX7_run 28 = .ok (.istore 4, 2) := by decide +kernel
theorem dX7_run_30 : decode cX7_run 30 = .ok (.iload 4, 2) := by decide +kernel
theorem dX7_run_32 : decode cX7_run 32 = .ok (.ifCond .ne 5, 3) := by decide +kernel
theorem dX7_run_35 : decode cX7_run 35 = .ok (.iconst 1, 1) := by decide +kernel
theorem dX7_run_36 : decode cX7_run 36 = .ok (.ireturn, 1) := by decide +kernel
theorem dX7_run_37 : decode cX7_run 37 = .ok (.aload_n 0, 1) := by decide +kernel
theorem dX7_run_38 : decode cX7_run 38 = .ok (.iload_n 1, 1) := by decide +kernel
theorem dX7_run_39 : decode cX7_run 39 = .ok (.iload_n 2, 1) := by decide +kernel
theorem dX7_run_40 : decode cX7_run 40 = .ok (.iload 4, 2) := by decide +kernel
theorem dX7_run_42 : decode cX7_run 42 = .ok (.invokevirtual 175, 3) := by decide +kernel
theorem dX7_run_45 : decode cX7_run 45 = .ok (.aload_n 0, 1) := by decide +kernel
theorem dX7_run_46 : decode cX7_run 46 = .ok (.getfield 43, 3) := by decide +kernel
theorem dX7_run_49 : decode cX7_run 49 = .ok (.iload_n 1, 1) := by decide +kernel
theorem dX7_run_50 : decode cX7_run 50 = .ok (.iaload, 1) := by decide +kernel
theorem dX7_run_51 : decode cX7_run 51 = .ok (.iconst 1, 1) := by decide +kernel
theorem dX7_run_52 : decode cX7_run 52 = .ok (.if_icmp .ne 14, 3) := by decide +kernel
theorem dX7_run_55 : decode cX7_run 55 = .ok (.aload_n 0, 1) := by decide +kernel
theorem dX7_run_56 : decode cX7_run 56 = .ok (.getfield 67, 3) := by decide +kernel
theorem dX7_run_59 : decode cX7_run 59 = .ok (.iload_n 1, 1) := by decide +kernel
theorem dX7_run_60 : decode cX7_run 60 = .ok (.iload_n 2, 1) := by decide +kernel
theorem dX7_run_61 : decode cX7_run 61 = .ok (.invokestatic 132, 3) := by decide +kernel
theorem dX7_run_64 : decode cX7_run 64 = .ok (.iconst 1, 1) := by decide +kernel
theorem dX7_run_65 : decode cX7_run 65 = .ok (.bastore, 1) := by decide +kernel
theorem dX7_run_66 : decode cX7_run 66 = .ok (.aload_n 0, 1) := by decide +kernel
theorem dX7_run_67 : decode cX7_run 67 = .ok (.getfield 43, 3) := by decide +kernel
theorem dX7_run_70 : decode cX7_run 70 = .ok (.iload_n 1, 1) := by decide +kernel
theorem dX7_run_71 : decode cX7_run 71 = .ok (.iaload, 1) := by decide +kernel
theorem dX7_run_72 : decode cX7_run 72 = .ok (.iconst 2, 1) := by decide +kernel
theorem dX7_run_73 : decode cX7_run 73 = .ok (.if_icmp .ne 10, 3) := by decide +kernel
theorem dX7_run_76 : decode cX7_run 76 = .ok (.aload_n 0, 1) := by decide +kernel
theorem dX7_run_77 : decode cX7_run 77 = .ok (.getfield 39, 3) := by decide +kernel
theorem dX7_run_80 : decode cX7_run 80 = .ok (.iload_n 1, 1) := by decide +kernel
theorem dX7_run_81 : decode cX7_run 81 = .ok (.iconst 0, 1) := by decide +kernel
theorem dX7_run_82 : decode cX7_run 82 = .ok (.bastore, 1) := by decide +kernel
theorem dX7_run_83 : decode cX7_run 83 = .ok (.bipush 10, 2) := by decide +kernel
theorem dX7_run_85 : decode cX7_run 85 = .ok (.iload 4, 2) := by decide +kernel
theorem dX7_run_87 : decode cX7_run 87 = .ok (.iadd, 1) := by decide +kernel
theorem dX7_run_88 : decode cX7_run 88 = .ok (.ireturn, 1) := by decide +kernel
theorem dX7_beside_0 : decode cX7_beside 0 = .ok (.aload_n 0, 1) := by decide +kernel
theorem dX7_beside_1 : decode cX7_beside 1 = .ok (.iconst 0, 1) := by decide +kernel
theorem dX7_beside_2 : decode cX7_beside 2 = .ok (.putfield 90, 3) := by decide +kernel
theorem dX7_beside_5 : decode cX7_beside 5 = .ok (.aload_n 0, 1) := by decide +kernel
theorem dX7_beside_6 : decode cX7_beside 6 = .ok (.iload_n 1, 1) := by decide +kernel
theorem dX7_beside_7 : decode cX7_beside 7 = .ok (.iload_n 2, 1) := by decide +kernel
theorem dX7_beside_8 : decode cX7_beside 8 = .ok (.invokevirtual 178, 3) := by decide +kernel
theorem dX7_beside_11 : decode cX7_beside 11 = .ok (.istore_n 3, 1) := by decide +kernel
theorem dX7_beside_12 : decode cX7_beside 12 = .ok (.iload_n 3, 1) := by decide +kernel
theorem dX7_beside_13 : decode cX7_beside 13 = .ok (.ifCond .ge 9, 3) := by decide +kernel
theorem dX7_beside_16 : decode cX7_beside 16 = .ok (.aload_n 0, 1) := by decide +kernel
theorem dX7_beside_17 : decode cX7_beside 17 = .ok (.iload_n 3, 1) := by decide +kernel
theorem dX7_beside_18 : decode cX7_beside 18 = .ok (.invokevirtual 100, 3) := by decide +kernel
theorem dX7_beside_21 : decode cX7_beside 21 = .ok (.ireturn, 1) := by decide +kernel
theorem dX7_beside_22 : decode cX7_beside 22 = .ok (.iload_n 1, 1) := by decide +kernel
theorem dX7_beside_23 : decode cX7_beside 23 = .ok (.iload_n 2, 1) := by decide +kernel
theorem dX7_beside_24 : decode cX7_beside 24 = .ok (.invokestatic 132, 3) := by decide +kernel
theorem dX7_beside_27 : decode cX7_beside 27 = .ok (.istore 4, 2) := by decide +kernel
theorem dX7_beside_29 : decode cX7_beside 29 = .ok (.iconst 0, 1) := by decide +kernel
theorem dX7_beside_30 : decode cX7_beside 30 = .ok (.istore 5, 2) := by decide +kernel
theorem dX7_beside_32 : decode cX7_beside 32 = .ok (.iload 5, 2) := by decide +kernel
theorem dX7_beside_34 : decode cX7_beside 34 = .ok (.bipush 8, 2) := by decide +kernel
theorem dX7_beside_36 : decode cX7_beside 36 = .ok (.if_icmp .ge 48, 3) := by decide +kernel
theorem dX7_beside_39 : decode cX7_beside 39 = .ok (.aload_n 0, 1) := by decide +kernel
theorem dX7_beside_40 : decode cX7_beside 40 = .ok (.getfield 79, 3) := by decide +kernel
theorem dX7_beside_43 : decode cX7_beside 43 = .ok (.iload 5, 2) := by decide +kernel
theorem dX7_beside_45 : decode cX7_beside 45 = .ok (.aload_n 0, 1) := by decide +kernel
theorem dX7_beside_46 : decode cX7_beside 46 = .ok (.getfield 35, 3) := by decide +kernel
theorem dX7_beside_49 : decode cX7_beside 49 = .ok (.bipush 8, 2) := by decide +kernel
theorem dX7_beside_51 : decode cX7_beside 51 = .ok (.iload_n 1, 1) := by decide +kernel
theorem dX7_beside_52 : decode cX7_beside 52 = .ok (.imul, 1) := by decide +kernel
theorem dX7_beside_53 : decode cX7_beside 53 = .ok (.iload 5, 2) := by decide +kernel
theorem dX7_beside_55 : decode cX7_beside 55 = .ok (.iadd, 1) := by decide +kernel
theorem dX7_beside_56 : decode cX7_beside 56 = .ok (.laload, 1) := by decide +kernel
theorem dX7_beside_57 : decode cX7_beside 57 = .ok (.lastore, 1) := by decide +kernel
theorem dX7_beside_58 : decode cX7_beside 58 = .ok (.aload_n 0, 1) := by decide +kernel
theorem dX7_beside_59 : decode cX7_beside 59 = .ok (.getfield 82, 3) := by decide +kernel
theorem dX7_beside_62 : decode cX7_beside 62 = .ok (.iload 5, 2) := by decide +kernel
theorem dX7_beside_64 : decode cX7_beside 64 = .ok (.aload_n 0, 1) := by decide +kernel
theorem dX7_beside_65 : decode cX7_beside 65 = .ok (.getfield 64, 3) := by decide +kernel
theorem dX7_beside_68 : decode cX7_beside 68 = .ok (.bipush 8, 2) := by decide +kernel
theorem dX7_beside_70 : decode cX7_beside 70 = .ok (.iload 4, 2) := by decide +kernel
theorem dX7_beside_72 : decode cX7_beside 72 = .ok (.imul, 1) := by decide +kernel
theorem dX7_beside_73 : decode cX7_beside 73 = .ok (.iload 5, 2) := by decide +kernel
theorem dX7_beside_75 : decode cX7_beside 75 = .ok (.iadd, 1) := by decide +kernel
theorem dX7_beside_76 : decode cX7_beside 76 = .ok (.laload, 1) := by decide +kernel
theorem dX7_beside_77 : decode cX7_beside 77 = .ok (.lastore, 1) := by decide +kernel
theorem dX7_beside_78 : decode cX7_beside 78 = .ok (.iinc 5 1, 3) := by decide +kernel
theorem dX7_beside_81 : decode cX7_beside 81 = .ok (.goto (-49), 3) := by decide +kernel
theorem dX7_beside_84 : decode cX7_beside 84 = .ok (.aload_n 0, 1) := by decide +kernel
theorem dX7_beside_85 : decode cX7_beside 85 = .ok (.getfield 70, 3) := by decide +kernel
theorem dX7_beside_88 : decode cX7_beside 88 = .ok (.iload 4, 2) := by decide +kernel
theorem dX7_beside_90 : decode cX7_beside 90 = .ok (.iaload, 1) := by decide +kernel
theorem dX7_beside_91 : decode cX7_beside 91 = .ok (.istore 5, 2) := by decide +kernel
theorem dX7_beside_93 : decode cX7_beside 93 = .ok (.aload_n 0, 1) := by decide +kernel
theorem dX7_beside_94 : decode cX7_beside 94 = .ok (.getfield 73, 3) := by decide +kernel
theorem dX7_beside_97 : decode cX7_beside 97 = .ok (.iload 4, 2) := by decide +kernel
theorem dX7_beside_99 : decode cX7_beside 99 = .ok (.iaload, 1) := by decide +kernel
theorem dX7_beside_100 : decode cX7_beside 100 = .ok (.istore 6, 2) := by decide +kernel
theorem dX7_beside_102 : decode cX7_beside 102 = .ok (.aload_n 0, 1) := by decide +kernel
theorem dX7_beside_103 : decode cX7_beside 103 = .ok (.iload_n 1, 1) := by decide +kernel
theorem dX7_beside_104 : decode cX7_beside 104 = .ok (.iload_n 2, 1) := by decide +kernel
theorem dX7_beside_105 : decode cX7_beside 105 = .ok (.invokevirtual 181, 3) := by decide +kernel
theorem dX7_beside_108 : decode cX7_beside 108 = .ok (.istore 7, 2) := by decide +kernel
theorem dX7_beside_110 : decode cX7_beside 110 = .ok (.iconst 0, 1) := by decide +kernel
theorem dX7_beside_111 : decode cX7_beside 111 = .ok (.istore 8, 2) := by decide +kernel
theorem dX7_beside_113 : decode cX7_beside 113 = .ok (.iload 8, 2) := by decide +kernel
theorem dX7_beside_115 : decode cX7_beside 115 = .ok (.bipush 8, 2) := by decide +kernel
theorem dX7_beside_117 : decode cX7_beside 117 = .ok (.if_icmp .ge 48, 3) := by decide +kernel
theorem dX7_beside_120 : decode cX7_beside 120 = .ok (.aload_n 0, 1) := by decide +kernel
theorem dX7_beside_121 : decode cX7_beside 121 = .ok (.getfield 35, 3) := by decide +kernel
theorem dX7_beside_124 : decode cX7_beside 124 = .ok (.bipush 8, 2) := by decide +kernel
theorem dX7_beside_126 : decode cX7_beside 126 = .ok (.iload_n 1, 1) := by decide +kernel
theorem dX7_beside_127 : decode cX7_beside 127 = .ok (.imul, 1) := by decide +kernel
theorem dX7_beside_128 : decode cX7_beside 128 = .ok (.iload 8, 2) := by decide +kernel
theorem dX7_beside_130 : decode cX7_beside 130 = .ok (.iadd, 1) := by decide +kernel
theorem dX7_beside_131 : decode cX7_beside 131 = .ok (.aload_n 0, 1) := by decide +kernel
theorem dX7_beside_132 : decode cX7_beside 132 = .ok (.getfield 79, 3) := by decide +kernel
theorem dX7_beside_135 : decode cX7_beside 135 = .ok (.iload 8, 2) := by decide +kernel
theorem dX7_beside_137 : decode cX7_beside 137 = .ok (.laload, 1) := by decide +kernel
theorem dX7_beside_138 : decode cX7_beside 138 = .ok (.lastore, 1) := by decide +kernel
theorem dX7_beside_139 : decode cX7_beside 139 = .ok (.aload_n 0, 1) := by decide +kernel
theorem dX7_beside_140 : decode cX7_beside 140 = .ok (.getfield 64, 3) := by decide +kernel
theorem dX7_beside_143 : decode cX7_beside 143 = .ok (.bipush 8, 2) := by decide +kernel
theorem dX7_beside_145 : decode cX7_beside 145 = .ok (.iload 4, 2) := by decide +kernel
theorem dX7_beside_147 : decode cX7_beside 147 = .ok (.imul, 1) := by decide +kernel
theorem dX7_beside_148 : decode cX7_beside 148 = .ok (.iload 8, 2) := by decide +kernel
theorem dX7_beside_150 : decode cX7_beside 150 = .ok (.iadd, 1) := by decide +kernel
theorem dX7_beside_151 : decode cX7_beside 151 = .ok (.aload_n 0, 1) := by decide +kernel
theorem dX7_beside_152 : decode cX7_beside 152 = .ok (.getfield 82, 3) := by decide +kernel
theorem dX7_beside_155 : decode cX7_beside 155 = .ok (.iload 8, 2) := by decide +kernel
theorem dX7_beside_157 : decode cX7_beside 157 = .ok (.laload, 1) := by decide +kernel
theorem dX7_beside_158 : decode cX7_beside 158 = .ok (.lastore, 1) := by decide +kernel
theorem dX7_beside_159 : decode cX7_beside 159 = .ok (.iinc 8 1, 3) := by decide +kernel
theorem dX7_beside_162 : decode cX7_beside 162 = .ok (.goto (-49), 3) := by decide +kernel
theorem dX7_beside_165 : decode cX7_beside 165 = .ok (.aload_n 0, 1) := by decide +kernel
theorem dX7_beside_166 : decode cX7_beside 166 = .ok (.getfield 70, 3) := by decide +kernel
theorem dX7_beside_169 : decode cX7_beside 169 = .ok (.iload 4, 2) := by decide +kernel
theorem dX7_beside_171 : decode cX7_beside 171 = .ok (.iload 5, 2) := by decide +kernel
theorem dX7_beside_173 : decode cX7_beside 173 = .ok (.iastore, 1) := by decide +kernel
theorem dX7_beside_174 : decode cX7_beside 174 = .ok (.aload_n 0, 1) := by decide +kernel
theorem dX7_beside_175 : decode cX7_beside 175 = .ok (.getfield 73, 3) := by decide +kernel
theorem dX7_beside_178 : decode cX7_beside 178 = .ok (.iload 4, 2) := by decide +kernel
theorem dX7_beside_180 : decode cX7_beside 180 = .ok (.iload 6, 2) := by decide +kernel
theorem dX7_beside_182 : decode cX7_beside 182 = .ok (.iastore, 1) := by decide +kernel
theorem dX7_beside_183 : decode cX7_beside 183 = .ok (.iload 7, 2) := by decide +kernel
theorem dX7_beside_185 : decode cX7_beside 185 = .ok (.ifCond .ne 7, 3) := by decide +kernel
theorem dX7_beside_188 : decode cX7_beside 188 = .ok (.iconst 1, 1) := by decide +kernel
theorem dX7_beside_189 : decode cX7_beside 189 = .ok (.goto 8, 3) := by decide +kernel
theorem dX7_beside_192 : decode cX7_beside 192 = .ok (.bipush 10, 2) := by decide +kernel
theorem dX7_beside_194 : decode cX7_beside 194 = .ok (.iload 7, 2) := by decide +kernel
theorem dX7_beside_196 : decode cX7_beside 196 = .ok (.iadd, 1) := by decide +kernel
theorem dX7_beside_197 : decode cX7_beside 197 = .ok (.ireturn, 1) := by decide +kernel
theorem dX7_port_0 : decode cX7_port 0 = .ok (.aload_n 0, 1) := by decide +kernel
theorem dX7_port_1 : decode cX7_port 1 = .ok (.iconst 0, 1) := by decide +kernel
theorem dX7_port_2 : decode cX7_port 2 = .ok (.putfield 90, 3) := by decide +kernel
theorem dX7_port_5 : decode cX7_port 5 = .ok (.aload_n 0, 1) := by decide +kernel
theorem dX7_port_6 : decode cX7_port 6 = .ok (.iload_n 1, 1) := by decide +kernel
theorem dX7_port_7 : decode cX7_port 7 = .ok (.invokevirtual 126, 3) := by decide +kernel
theorem dX7_port_10 : decode cX7_port 10 = .ok (.ifCond .eq 27, 3) := by decide +kernel
theorem dX7_port_13 : decode cX7_port 13 = .ok (.iload_n 2, 1) := by decide +kernel
theorem dX7_port_14 : decode cX7_port 14 = .ok (.iconst 0, 1) := by decide +kernel
theorem dX7_port_15 : decode cX7_port 15 = .ok (.bipush 7, 2) := by decide +kernel
theorem dX7_port_17 : decode cX7_port 17 = .ok (.invokestatic 96, 3) := by decide +kernel
theorem dX7_port_20 : decode cX7_port 20 = .ok (.ifCond .eq 17, 3) := by decide +kernel
theorem dX7_port_23 : decode cX7_port 23 = .ok (.aload_n 0, 1) := by decide +kernel
theorem dX7_port_24 : decode cX7_port 24 = .ok (.getfield 35, 3) := by decide +kernel
theorem dX7_port_27 : decode cX7_port 27 = .ok (.bipush 8, 2) := by decide +kernel
theorem dX7_port_29 : decode cX7_port 29 = .ok (.iload_n 1, 1) := by decide +kernel
theorem dX7_port_30 : decode cX7_port 30 = .ok (.imul, 1) := by decide +kernel
theorem dX7_port_31 : decode cX7_port 31 = .ok (.iload_n 2, 1) := by decide +kernel
theorem dX7_port_32 : decode cX7_port 32 = .ok (.iadd, 1) := by decide +kernel
theorem dX7_port_33 : decode cX7_port 33 = .ok (.laload, 1) := by decide +kernel
theorem dX7_port_34 : decode cX7_port 34 = .ok (.goto 4, 3) := by decide +kernel
theorem dX7_port_37 : decode cX7_port 37 = .ok (.lconst 0, 1) := by decide +kernel
theorem dX7_port_38 : decode cX7_port 38 = .ok (.lreturn, 1) := by decide +kernel
theorem dX7_set_0 : decode cX7_set 0 = .ok (.aload_n 0, 1) := by decide +kernel
theorem dX7_set_1 : decode cX7_set 1 = .ok (.iconst 0, 1) := by decide +kernel
theorem dX7_set_2 : decode cX7_set 2 = .ok (.putfield 90, 3) := by decide +kernel
theorem dX7_set_5 : decode cX7_set 5 = .ok (.aload_n 0, 1) := by decide +kernel
theorem dX7_set_6 : decode cX7_set 6 = .ok (.iload_n 1, 1) := by decide +kernel
theorem dX7_set_7 : decode cX7_set 7 = .ok (.invokevirtual 126, 3) := by decide +kernel
theorem dX7_set_10 : decode cX7_set 10 = .ok (.ifCond .eq 13, 3) := by decide +kernel
theorem dX7_set_13 : decode cX7_set 13 = .ok (.iload_n 2, 1) := by decide +kernel
theorem dX7_set_14 : decode cX7_set 14 = .ok (.iconst 0, 1) := by decide +kernel
theorem dX7_set_15 : decode cX7_set 15 = .ok (.bipush 7, 2) := by decide +kernel
theorem dX7_set_17 : decode cX7_set 17 = .ok (.invokestatic 96, 3) := by decide +kernel
theorem dX7_set_20 : decode cX7_set 20 = .ok (.ifCond .ne 9, 3) := by decide +kernel
theorem dX7_set_23 : decode cX7_set 23 = .ok (.aload_n 0, 1) := by decide +kernel
theorem dX7_set_24 : decode cX7_set 24 = .ok (.iconst (-1), 1) := by decide +kernel
theorem dX7_set_25 : decode cX7_set 25 = .ok (.invokevirtual 100, 3) := by decide +kernel
theorem dX7_set_28 : decode cX7_set 28 = .ok (.ireturn, 1) := by decide +kernel
theorem dX7_set_29 : decode cX7_set 29 = .ok (.aload_n 0, 1) := by decide +kernel
theorem dX7_set_30 : decode cX7_set 30 = .ok (.getfield 35, 3) := by decide +kernel
theorem dX7_set_33 : decode cX7_set 33 = .ok (.bipush 8, 2) := by decide +kernel
theorem dX7_set_35 : decode cX7_set 35 = .ok (.iload_n 1, 1) := by decide +kernel
theorem dX7_set_36 : decode cX7_set 36 = .ok (.imul, 1) := by decide +kernel
theorem dX7_set_37 : decode cX7_set 37 = .ok (.iload_n 2, 1) := by decide +kernel
theorem dX7_set_38 : decode cX7_set 38 = .ok (.iadd, 1) := by decide +kernel
theorem dX7_set_39 : decode cX7_set 39 = .ok (.lload_n 3, 1) := by decide +kernel
theorem dX7_set_40 : decode cX7_set 40 = .ok (.lastore, 1) := by decide +kernel
theorem dX7_set_41 : decode cX7_set 41 = .ok (.iconst 1, 1) := by decide +kernel
theorem dX7_set_42 : decode cX7_set 42 = .ok (.ireturn, 1) := by decide +kernel
theorem dX7_cell_0 : decode cX7_cell 0 = .ok (.aload_n 0, 1) := by decide +kernel
theorem dX7_cell_1 : decode cX7_cell 1 = .ok (.iconst 0, 1) := by decide +kernel
theorem dX7_cell_2 : decode cX7_cell 2 = .ok (.putfield 90, 3) := by decide +kernel
theorem dX7_cell_5 : decode cX7_cell 5 = .ok (.aload_n 0, 1) := by decide +kernel
theorem dX7_cell_6 : decode cX7_cell 6 = .ok (.iload_n 1, 1) := by decide +kernel
theorem dX7_cell_7 : decode cX7_cell 7 = .ok (.iload_n 2, 1) := by decide +kernel
theorem dX7_cell_8 : decode cX7_cell 8 = .ok (.invokevirtual 184, 3) := by decide +kernel
theorem dX7_cell_11 : decode cX7_cell 11 = .ok (.ifCond .eq 31, 3) := by decide +kernel
theorem dX7_cell_14 : decode cX7_cell 14 = .ok (.iload_n 3, 1) := by decide +kernel
theorem dX7_cell_15 : decode cX7_cell 15 = .ok (.iconst 0, 1) := by decide +kernel
theorem dX7_cell_16 : decode cX7_cell 16 = .ok (.bipush 7, 2) := by decide +kernel
theorem dX7_cell_18 : decode cX7_cell 18 = .ok (.invokestatic 96, 3) := by decide +kernel
theorem dX7_cell_21 : decode cX7_cell 21 = .ok (.ifCond .eq 21, 3) := by decide +kernel
theorem dX7_cell_24 : decode cX7_cell 24 = .ok (.aload_n 0, 1) := by decide +kernel
theorem dX7_cell_25 : decode cX7_cell 25 = .ok (.getfield 64, 3) := by decide +kernel
theorem dX7_cell_28 : decode cX7_cell 28 = .ok (.bipush 8, 2) := by decide +kernel
theorem dX7_cell_30 : decode cX7_cell 30 = .ok (.iload_n 1, 1) := by decide +kernel
theorem dX7_cell_31 : decode cX7_cell 31 = .ok (.iload_n 2, 1) := by decide +kernel
theorem dX7_cell_32 : decode cX7_cell 32 = .ok (.invokestatic 132, 3) := by decide +kernel
theorem dX7_cell_35 : decode cX7_cell 35 = .ok (.imul, 1) := by decide +kernel
theorem dX7_cell_36 : decode cX7_cell 36 = .ok (.iload_n 3, 1) := by decide +kernel
theorem dX7_cell_37 : decode cX7_cell 37 = .ok (.iadd, 1) := by decide +kernel
theorem dX7_cell_38 : decode cX7_cell 38 = .ok (.laload, 1) := by decide +kernel
theorem dX7_cell_39 : decode cX7_cell 39 = .ok (.goto 4, 3) := by decide +kernel
theorem dX7_cell_42 : decode cX7_cell 42 = .ok (.lconst 0, 1) := by decide +kernel
theorem dX7_cell_43 : decode cX7_cell 43 = .ok (.lreturn, 1) := by decide +kernel
theorem dX7_reaction_0 : decode cX7_reaction 0 = .ok (.aload_n 0, 1) := by decide +kernel
theorem dX7_reaction_1 : decode cX7_reaction 1 = .ok (.iconst 0, 1) := by decide +kernel
theorem dX7_reaction_2 : decode cX7_reaction 2 = .ok (.putfield 90, 3) := by decide +kernel
theorem dX7_reaction_5 : decode cX7_reaction 5 = .ok (.aload_n 0, 1) := by decide +kernel
theorem dX7_reaction_6 : decode cX7_reaction 6 = .ok (.iload_n 1, 1) := by decide +kernel
theorem dX7_reaction_7 : decode cX7_reaction 7 = .ok (.invokevirtual 126, 3) := by decide +kernel
theorem dX7_reaction_10 : decode cX7_reaction 10 = .ok (.ifCond .ne 9, 3) := by decide +kernel
theorem dX7_reaction_13 : decode cX7_reaction 13 = .ok (.aload_n 0, 1) := by decide +kernel
theorem dX7_reaction_14 : decode cX7_reaction 14 = .ok (.iconst (-1), 1) := by decide +kernel
theorem dX7_reaction_15 : decode cX7_reaction 15 = .ok (.invokevirtual 100, 3) := by decide +kernel
theorem dX7_reaction_18 : decode cX7_reaction 18 = .ok (.ireturn, 1) := by decide +kernel
theorem dX7_reaction_19 : decode cX7_reaction 19 = .ok (.iload_n 2, 1) := by decide +kernel
theorem dX7_reaction_20 : decode cX7_reaction 20 = .ok (.iconst 0, 1) := by decide +kernel
theorem dX7_reaction_21 : decode cX7_reaction 21 = .ok (.iconst 2, 1) := by decide +kernel
theorem dX7_reaction_22 : decode cX7_reaction 22 = .ok (.invokestatic 96, 3) := by decide +kernel
theorem dX7_reaction_25 : decode cX7_reaction 25 = .ok (.ifCond .ne 10, 3) := by decide +kernel
theorem dX7_reaction_28 : decode cX7_reaction 28 = .ok (.aload_n 0, 1) := by decide +kernel
theorem dX7_reaction_29 : decode cX7_reaction 29 = .ok (.bipush (-2), 2) := by decide +kernel
theorem dX7_reaction_31 : decode cX7_reaction 31 = .ok (.invokevirtual 100, 3) := by decide +kernel
theorem dX7_reaction_34 : decode cX7_reaction 34 = .ok (.ireturn, 1) := by decide +kernel
theorem dX7_reaction_35 : decode cX7_reaction 35 = .ok (.aload_n 0, 1) := by decide +kernel
theorem dX7_reaction_36 : decode cX7_reaction 36 = .ok (.getfield 43, 3) := by decide +kernel
theorem dX7_reaction_39 : decode cX7_reaction 39 = .ok (.iload_n 1, 1) := by decide +kernel
theorem dX7_reaction_40 : decode cX7_reaction 40 = .ok (.iaload, 1) := by decide +kernel
theorem dX7_reaction_41 : decode cX7_reaction 41 = .ok (.istore_n 3, 1) := by decide +kernel
theorem dX7_reaction_42 : decode cX7_reaction 42 = .ok (.aload_n 0, 1) := by decide +kernel
theorem dX7_reaction_43 : decode cX7_reaction 43 = .ok (.getfield 43, 3) := by decide +kernel
theorem dX7_reaction_46 : decode cX7_reaction 46 = .ok (.iload_n 1, 1) := by decide +kernel
theorem dX7_reaction_47 : decode cX7_reaction 47 = .ok (.iload_n 2, 1) := by decide +kernel
theorem dX7_reaction_48 : decode cX7_reaction 48 = .ok (.iastore, 1) := by decide +kernel
theorem dX7_reaction_49 : decode cX7_reaction 49 = .ok (.iload_n 3, 1) := by decide +kernel
theorem dX7_reaction_50 : decode cX7_reaction 50 = .ok (.ireturn, 1) := by decide +kernel
theorem dX7_update_0 : decode cX7_update 0 = .ok (.aload_n 0, 1) := by decide +kernel
theorem dX7_update_1 : decode cX7_update 1 = .ok (.iconst 0, 1) := by decide +kernel
theorem dX7_update_2 : decode cX7_update 2 = .ok (.putfield 90, 3) := by decide +kernel
theorem dX7_update_5 : decode cX7_update 5 = .ok (.aload_n 0, 1) := by decide +kernel
theorem dX7_update_6 : decode cX7_update 6 = .ok (.iload_n 1, 1) := by decide +kernel
theorem dX7_update_7 : decode cX7_update 7 = .ok (.invokevirtual 126, 3) := by decide +kernel
theorem dX7_update_10 : decode cX7_update 10 = .ok (.ifCond .eq 11, 3) := by decide +kernel
theorem dX7_update_13 : decode cX7_update 13 = .ok (.aload_n 0, 1) := by decide +kernel
theorem dX7_update_14 : decode cX7_update 14 = .ok (.iload_n 2, 1) := by decide +kernel
theorem dX7_update_15 : decode cX7_update 15 = .ok (.invokevirtual 129, 3) := by decide +kernel
theorem dX7_update_18 : decode cX7_update 18 = .ok (.ifCond .ne 9, 3) := by decide +kernel
theorem dX7_update_21 : decode cX7_update 21 = .ok (.aload_n 0, 1) := by decide +kernel
theorem dX7_update_22 : decode cX7_update 22 = .ok (.iconst (-1), 1) := by decide +kernel
theorem dX7_update_23 : decode cX7_update 23 = .ok (.invokevirtual 100, 3) := by decide +kernel
theorem dX7_update_26 : decode cX7_update 26 = .ok (.ireturn, 1) := by decide +kernel
theorem dX7_update_27 : decode cX7_update 27 = .ok (.iload_n 1, 1) := by decide +kernel
theorem dX7_update_28 : decode cX7_update 28 = .ok (.iload_n 2, 1) := by decide +kernel
theorem dX7_update_29 : decode cX7_update 29 = .ok (.invokestatic 132, 3) := by decide +kernel
theorem dX7_update_32 : decode cX7_update 32 = .ok (.istore_n 3, 1) := by decide +kernel
theorem dX7_update_33 : decode cX7_update 33 = .ok (.aload_n 0, 1) := by decide +kernel
theorem dX7_update_34 : decode cX7_update 34 = .ok (.getfield 61, 3) := by decide +kernel
theorem dX7_update_37 : decode cX7_update 37 = .ok (.iload_n 3, 1) := by decide +kernel
theorem dX7_update_38 : decode cX7_update 38 = .ok (.iaload, 1) := by decide +kernel
theorem dX7_update_39 : decode cX7_update 39 = .ok (.ifCond .eq 18, 3) := by decide +kernel
theorem dX7_update_42 : decode cX7_update 42 = .ok (.aload_n 0, 1) := by decide +kernel
theorem dX7_update_43 : decode cX7_update 43 = .ok (.getfield 61, 3) := by decide +kernel
theorem dX7_update_46 : decode cX7_update 46 = .ok (.iload_n 3, 1) := by decide +kernel
theorem dX7_update_47 : decode cX7_update 47 = .ok (.iaload, 1) := by decide +kernel
theorem dX7_update_48 : decode cX7_update 48 = .ok (.aload_n 0, 1) := by decide +kernel
theorem dX7_update_49 : decode cX7_update 49 = .ok (.getfield 13, 3) := by decide +kernel
theorem dX7_update_52 : decode cX7_update 52 = .ok (.iload_n 2, 1) := by decide +kernel
theorem dX7_update_53 : decode cX7_update 53 = .ok (.iaload, 1) := by decide +kernel
theorem dX7_update_54 : decode cX7_update 54 = .ok (.if_icmp .ne 10, 3) := by decide +kernel
theorem dX7_update_57 : decode cX7_update 57 = .ok (.aload_n 0, 1) := by decide +kernel
theorem dX7_update_58 : decode cX7_update 58 = .ok (.bipush (-3), 2) := by decide +kernel
theorem dX7_update_60 : decode cX7_update 60 = .ok (.invokevirtual 100, 3) := by decide +kernel
theorem dX7_update_63 : decode cX7_update 63 = .ok (.ireturn, 1) := by decide +kernel
theorem dX7_update_64 : decode cX7_update 64 = .ok (.aload_n 0, 1) := by decide +kernel
theorem dX7_update_65 : decode cX7_update 65 = .ok (.iload_n 3, 1) := by decide +kernel
theorem dX7_update_66 : decode cX7_update 66 = .ok (.iload_n 2, 1) := by decide +kernel
theorem dX7_update_67 : decode cX7_update 67 = .ok (.iconst 4, 1) := by decide +kernel
theorem dX7_update_68 : decode cX7_update 68 = .ok (.invokevirtual 135, 3) := by decide +kernel
theorem dX7_update_71 : decode cX7_update 71 = .ok (.iconst 1, 1) := by decide +kernel
theorem dX7_update_72 : decode cX7_update 72 = .ok (.ireturn, 1) := by decide +kernel
theorem dX7_reset_0 : decode cX7_reset 0 = .ok (.aload_n 0, 1) := by decide +kernel
theorem dX7_reset_1 : decode cX7_reset 1 = .ok (.iconst 0, 1) := by decide +kernel
theorem dX7_reset_2 : decode cX7_reset 2 = .ok (.putfield 90, 3) := by decide +kernel
theorem dX7_reset_5 : decode cX7_reset 5 = .ok (.aload_n 0, 1) := by decide +kernel
theorem dX7_reset_6 : decode cX7_reset 6 = .ok (.iload_n 1, 1) := by decide +kernel
theorem dX7_reset_7 : decode cX7_reset 7 = .ok (.invokevirtual 126, 3) := by decide +kernel
theorem dX7_reset_10 : decode cX7_reset 10 = .ok (.ifCond .ne 9, 3) := by decide +kernel
theorem dX7_reset_13 : decode cX7_reset 13 = .ok (.aload_n 0, 1) := by decide +kernel
theorem dX7_reset_14 : decode cX7_reset 14 = .ok (.iconst (-1), 1) := by decide +kernel
theorem dX7_reset_15 : decode cX7_reset 15 = .ok (.invokevirtual 100, 3) := by decide +kernel
theorem dX7_reset_18 : decode cX7_reset 18 = .ok (.ireturn, 1) := by decide +kernel
theorem dX7_reset_19 : decode cX7_reset 19 = .ok (.aload_n 0, 1) := by decide +kernel
theorem dX7_reset_20 : decode cX7_reset 20 = .ok (.getfield 39, 3) := by decide +kernel
theorem dX7_reset_23 : decode cX7_reset 23 = .ok (.iload_n 1, 1) := by decide +kernel
theorem dX7_reset_24 : decode cX7_reset 24 = .ok (.iconst 0, 1) := by decide +kernel
theorem dX7_reset_25 : decode cX7_reset 25 = .ok (.bastore, 1) := by decide +kernel
theorem dX7_reset_26 : decode cX7_reset 26 = .ok (.iconst 0, 1) := by decide +kernel
theorem dX7_reset_27 : decode cX7_reset 27 = .ok (.istore_n 2, 1) := by decide +kernel
theorem dX7_reset_28 : decode cX7_reset 28 = .ok (.iload_n 2, 1) := by decide +kernel
theorem dX7_reset_29 : decode cX7_reset 29 = .ok (.bipush 8, 2) := by decide +kernel
theorem dX7_reset_31 : decode cX7_reset 31 = .ok (.if_icmp .ge 21, 3) := by decide +kernel
theorem dX7_reset_34 : decode cX7_reset 34 = .ok (.aload_n 0, 1) := by decide +kernel
theorem dX7_reset_35 : decode cX7_reset 35 = .ok (.getfield 35, 3) := by decide +kernel
theorem dX7_reset_38 : decode cX7_reset 38 = .ok (.bipush 8, 2) := by decide +kernel
theorem dX7_reset_40 : decode cX7_reset 40 = .ok (.iload_n 1, 1) := by decide +kernel
theorem dX7_reset_41 : decode cX7_reset 41 = .ok (.imul, 1) := by decide +kernel
theorem dX7_reset_42 : decode cX7_reset 42 = .ok (.iload_n 2, 1) := by decide +kernel
theorem dX7_reset_43 : decode cX7_reset 43 = .ok (.iadd, 1) := by decide +kernel
theorem dX7_reset_44 : decode cX7_reset 44 = .ok (.lconst 0, 1) := by decide +kernel
theorem dX7_reset_45 : decode cX7_reset 45 = .ok (.lastore, 1) := by decide +kernel
theorem dX7_reset_46 : decode cX7_reset 46 = .ok (.iinc 2 1, 3) := by decide +kernel
theorem dX7_reset_49 : decode cX7_reset 49 = .ok (.goto (-21), 3) := by decide +kernel
theorem dX7_reset_52 : decode cX7_reset 52 = .ok (.iconst 0, 1) := by decide +kernel
theorem dX7_reset_53 : decode cX7_reset 53 = .ok (.istore_n 2, 1) := by decide +kernel
theorem dX7_reset_54 : decode cX7_reset 54 = .ok (.iconst 1, 1) := by decide +kernel
theorem dX7_reset_55 : decode cX7_reset 55 = .ok (.istore_n 3, 1) := by decide +kernel
theorem dX7_reset_56 : decode cX7_reset 56 = .ok (.iload_n 3, 1) := by decide +kernel
theorem dX7_reset_57 : decode cX7_reset 57 = .ok (.aload_n 0, 1) := by decide +kernel
theorem dX7_reset_58 : decode cX7_reset 58 = .ok (.getfield 107, 3) := by decide +kernel
theorem dX7_reset_61 : decode cX7_reset 61 = .ok (.if_icmp .gt 39, 3) := by decide +kernel
theorem dX7_reset_64 : decode cX7_reset 64 = .ok (.aload_n 0, 1) := by decide +kernel
theorem dX7_reset_65 : decode cX7_reset 65 = .ok (.getfield 61, 3) := by decide +kernel
theorem dX7_reset_68 : decode cX7_reset 68 = .ok (.iload_n 1, 1) := by decide +kernel
theorem dX7_reset_69 : decode cX7_reset 69 = .ok (.iload_n 3, 1) := by decide +kernel
theorem dX7_reset_70 : decode cX7_reset 70 = .ok (.invokestatic 132, 3) := by decide +kernel
theorem dX7_reset_73 : decode cX7_reset 73 = .ok (.iaload, 1) := by decide +kernel
theorem dX7_reset_74 : decode cX7_reset 74 = .ok (.ifCond .ne 6, 3) := by decide +kernel
theorem dX7_reset_77 : decode cX7_reset 77 = .ok (.goto 17, 3) := by decide +kernel
theorem dX7_reset_80 : decode cX7_reset 80 = .ok (.aload_n 0, 1) := by decide +kernel
theorem dX7_reset_81 : decode cX7_reset 81 = .ok (.iload_n 1, 1) := by decide +kernel
theorem dX7_reset_82 : decode cX7_reset 82 = .ok (.iload_n 3, 1) := by decide +kernel
theorem dX7_reset_83 : decode cX7_reset 83 = .ok (.invokestatic 132, 3) := by decide +kernel
theorem dX7_reset_86 : decode cX7_reset 86 = .ok (.iload_n 3, 1) := by decide +kernel
theorem dX7_reset_87 : decode cX7_reset 87 = .ok (.iconst 0, 1) := by decide +kernel
theorem dX7_reset_88 : decode cX7_reset 88 = .ok (.invokevirtual 135, 3) := by decide +kernel
theorem dX7_reset_91 : decode cX7_reset 91 = .ok (.iinc 2 1, 3) := by decide +kernel
theorem dX7_reset_94 : decode cX7_reset 94 = .ok (.iinc 3 1, 3) := by decide +kernel
theorem dX7_reset_97 : decode cX7_reset 97 = .ok (.goto (-41), 3) := by decide +kernel
theorem dX7_reset_100 : decode cX7_reset 100 = .ok (.iload_n 2, 1) := by decide +kernel
theorem dX7_reset_101 : decode cX7_reset 101 = .ok (.ireturn, 1) := by decide +kernel
theorem dX7_fault_0 : decode cX7_fault 0 = .ok (.aload_n 0, 1) := by decide +kernel
theorem dX7_fault_1 : decode cX7_fault 1 = .ok (.iconst 0, 1) := by decide +kernel
theorem dX7_fault_2 : decode cX7_fault 2 = .ok (.putfield 90, 3) := by decide +kernel
theorem dX7_fault_5 : decode cX7_fault 5 = .ok (.aload_n 0, 1) := by decide +kernel
theorem dX7_fault_6 : decode cX7_fault 6 = .ok (.iload_n 1, 1) := by decide +kernel
theorem dX7_fault_7 : decode cX7_fault 7 = .ok (.invokevirtual 126, 3) := by decide +kernel
theorem dX7_fault_10 : decode cX7_fault 10 = .ok (.ifCond .ne 9, 3) := by decide +kernel
theorem dX7_fault_13 : decode cX7_fault 13 = .ok (.aload_n 0, 1) := by decide +kernel
theorem dX7_fault_14 : decode cX7_fault 14 = .ok (.iconst (-1), 1) := by decide +kernel
theorem dX7_fault_15 : decode cX7_fault 15 = .ok (.invokevirtual 100, 3) := by decide +kernel
theorem dX7_fault_18 : decode cX7_fault 18 = .ok (.ireturn, 1) := by decide +kernel
theorem dX7_fault_19 : decode cX7_fault 19 = .ok (.iload_n 2, 1) := by decide +kernel
theorem dX7_fault_20 : decode cX7_fault 20 = .ok (.tableswitch 90 0 5 #[40, 47, 54, 61, 68, 75], 40) := by decide +kernel
theorem dX7_fault_60 : decode cX7_fault 60 = .ok (.aload_n 0, 1) := by decide +kernel
theorem dX7_fault_61 : decode cX7_fault 61 = .ok (.getfield 46, 3) := by decide +kernel
theorem dX7_fault_64 : decode cX7_fault 64 = .ok (.iload_n 1, 1) := by decide +kernel
theorem dX7_fault_65 : decode cX7_fault 65 = .ok (.iaload, 1) := by decide +kernel
theorem dX7_fault_66 : decode cX7_fault 66 = .ok (.ireturn, 1) := by decide +kernel
theorem dX7_fault_67 : decode cX7_fault 67 = .ok (.aload_n 0, 1) := by decide +kernel
theorem dX7_fault_68 : decode cX7_fault 68 = .ok (.getfield 49, 3) := by decide +kernel
theorem dX7_fault_71 : decode cX7_fault 71 = .ok (.iload_n 1, 1) := by decide +kernel
theorem dX7_fault_72 : decode cX7_fault 72 = .ok (.iaload, 1) := by decide +kernel
theorem dX7_fault_73 : decode cX7_fault 73 = .ok (.ireturn, 1) := by decide +kernel
theorem dX7_fault_74 : decode cX7_fault 74 = .ok (.aload_n 0, 1) := by decide +kernel
theorem dX7_fault_75 : decode cX7_fault 75 = .ok (.getfield 52, 3) := by decide +kernel
theorem dX7_fault_78 : decode cX7_fault 78 = .ok (.iload_n 1, 1) := by decide +kernel
theorem dX7_fault_79 : decode cX7_fault 79 = .ok (.iaload, 1) := by decide +kernel
theorem dX7_fault_80 : decode cX7_fault 80 = .ok (.ireturn, 1) := by decide +kernel
theorem dX7_fault_81 : decode cX7_fault 81 = .ok (.aload_n 0, 1) := by decide +kernel
theorem dX7_fault_82 : decode cX7_fault 82 = .ok (.getfield 55, 3) := by decide +kernel
theorem dX7_fault_85 : decode cX7_fault 85 = .ok (.iload_n 1, 1) := by decide +kernel
theorem dX7_fault_86 : decode cX7_fault 86 = .ok (.iaload, 1) := by decide +kernel
theorem dX7_fault_87 : decode cX7_fault 87 = .ok (.ireturn, 1) := by decide +kernel
theorem dX7_fault_88 : decode cX7_fault 88 = .ok (.aload_n 0, 1) := by decide +kernel
theorem dX7_fault_89 : decode cX7_fault 89 = .ok (.getfield 58, 3) := by decide +kernel
theorem dX7_fault_92 : decode cX7_fault 92 = .ok (.iload_n 1, 1) := by decide +kernel
theorem dX7_fault_93 : decode cX7_fault 93 = .ok (.iaload, 1) := by decide +kernel
theorem dX7_fault_94 : decode cX7_fault 94 = .ok (.ireturn, 1) := by decide +kernel
theorem dX7_fault_95 : decode cX7_fault 95 = .ok (.aload_n 0, 1) := by decide +kernel
theorem dX7_fault_96 : decode cX7_fault 96 = .ok (.getfield 39, 3) := by decide +kernel
theorem dX7_fault_99 : decode cX7_fault 99 = .ok (.iload_n 1, 1) := by decide +kernel
theorem dX7_fault_100 : decode cX7_fault 100 = .ok (.baload, 1) := by decide +kernel
theorem dX7_fault_101 : decode cX7_fault 101 = .ok (.ifCond .eq 7, 3) := by decide +kernel
theorem dX7_fault_104 : decode cX7_fault 104 = .ok (.iconst 1, 1) := by decide +kernel
theorem dX7_fault_105 : decode cX7_fault 105 = .ok (.goto 4, 3) := by decide +kernel
theorem dX7_fault_108 : decode cX7_fault 108 = .ok (.iconst 0, 1) := by decide +kernel
theorem dX7_fault_109 : decode cX7_fault 109 = .ok (.ireturn, 1) := by decide +kernel
theorem dX7_fault_110 : decode cX7_fault 110 = .ok (.aload_n 0, 1) := by decide +kernel
theorem dX7_fault_111 : decode cX7_fault 111 = .ok (.bipush (-2), 2) := by decide +kernel
theorem dX7_fault_113 : decode cX7_fault 113 = .ok (.invokevirtual 100, 3) := by decide +kernel
theorem dX7_fault_116 : decode cX7_fault 116 = .ok (.ireturn, 1) := by decide +kernel
theorem dX7_same_0 : decode cX7_same 0 = .ok (.aload_n 0, 1) := by decide +kernel
theorem dX7_same_1 : decode cX7_same 1 = .ok (.iconst 0, 1) := by decide +kernel
theorem dX7_same_2 : decode cX7_same 2 = .ok (.putfield 90, 3) := by decide +kernel
theorem dX7_same_5 : decode cX7_same 5 = .ok (.aload_n 0, 1) := by decide +kernel
theorem dX7_same_6 : decode cX7_same 6 = .ok (.iload_n 1, 1) := by decide +kernel
theorem dX7_same_7 : decode cX7_same 7 = .ok (.iload_n 3, 1) := by decide +kernel
theorem dX7_same_8 : decode cX7_same 8 = .ok (.invokevirtual 184, 3) := by decide +kernel
theorem dX7_same_11 : decode cX7_same 11 = .ok (.ifCond .eq 12, 3) := by decide +kernel
theorem dX7_same_14 : decode cX7_same 14 = .ok (.aload_n 0, 1) := by decide +kernel
theorem dX7_same_15 : decode cX7_same 15 = .ok (.iload_n 2, 1) := by decide +kernel
theorem dX7_same_16 : decode cX7_same 16 = .ok (.iload_n 3, 1) := by decide +kernel
theorem dX7_same_17 : decode cX7_same 17 = .ok (.invokevirtual 184, 3) := by decide +kernel
theorem dX7_same_20 : decode cX7_same 20 = .ok (.ifCond .ne 5, 3) := by decide +kernel
theorem dX7_same_23 : decode cX7_same 23 = .ok (.iconst 0, 1) := by decide +kernel
theorem dX7_same_24 : decode cX7_same 24 = .ok (.ireturn, 1) := by decide +kernel
theorem dX7_same_25 : decode cX7_same 25 = .ok (.iload_n 1, 1) := by decide +kernel
theorem dX7_same_26 : decode cX7_same 26 = .ok (.iload_n 3, 1) := by decide +kernel
theorem dX7_same_27 : decode cX7_same 27 = .ok (.invokestatic 132, 3) := by decide +kernel
theorem dX7_same_30 : decode cX7_same 30 = .ok (.istore 4, 2) := by decide +kernel
theorem dX7_same_32 : decode cX7_same 32 = .ok (.iload_n 2, 1) := by decide +kernel
theorem dX7_same_33 : decode cX7_same 33 = .ok (.iload_n 3, 1) := by decide +kernel
theorem dX7_same_34 : decode cX7_same 34 = .ok (.invokestatic 132, 3) := by decide +kernel
theorem dX7_same_37 : decode cX7_same 37 = .ok (.istore 5, 2) := by decide +kernel
theorem dX7_same_39 : decode cX7_same 39 = .ok (.aload_n 0, 1) := by decide +kernel
theorem dX7_same_40 : decode cX7_same 40 = .ok (.getfield 61, 3) := by decide +kernel
theorem dX7_same_43 : decode cX7_same 43 = .ok (.iload 4, 2) := by decide +kernel
theorem dX7_same_45 : decode cX7_same 45 = .ok (.iaload, 1) := by decide +kernel
theorem dX7_same_46 : decode cX7_same 46 = .ok (.aload_n 0, 1) := by decide +kernel
theorem dX7_same_47 : decode cX7_same 47 = .ok (.getfield 61, 3) := by decide +kernel
theorem dX7_same_50 : decode cX7_same 50 = .ok (.iload 5, 2) := by decide +kernel
theorem dX7_same_52 : decode cX7_same 52 = .ok (.iaload, 1) := by decide +kernel
theorem dX7_same_53 : decode cX7_same 53 = .ok (.if_icmp .ne 7, 3) := by decide +kernel
theorem dX7_same_56 : decode cX7_same 56 = .ok (.iconst 1, 1) := by decide +kernel
theorem dX7_same_57 : decode cX7_same 57 = .ok (.goto 4, 3) := by decide +kernel
theorem dX7_same_60 : decode cX7_same 60 = .ok (.iconst 0, 1) := by decide +kernel
theorem dX7_same_61 : decode cX7_same 61 = .ok (.istore 6, 2) := by decide +kernel
theorem dX7_same_63 : decode cX7_same 63 = .ok (.iconst 0, 1) := by decide +kernel
theorem dX7_same_64 : decode cX7_same 64 = .ok (.istore 7, 2) := by decide +kernel
theorem dX7_same_66 : decode cX7_same 66 = .ok (.iload 7, 2) := by decide +kernel
theorem dX7_same_68 : decode cX7_same 68 = .ok (.bipush 8, 2) := by decide +kernel
theorem dX7_same_70 : decode cX7_same 70 = .ok (.if_icmp .ge 51, 3) := by decide +kernel
theorem dX7_same_73 : decode cX7_same 73 = .ok (.iload 6, 2) := by decide +kernel
theorem dX7_same_75 : decode cX7_same 75 = .ok (.ifCond .eq 37, 3) := by decide +kernel
theorem dX7_same_78 : decode cX7_same 78 = .ok (.aload_n 0, 1) := by decide +kernel
theorem dX7_same_79 : decode cX7_same 79 = .ok (.getfield 64, 3) := by decide +kernel
theorem dX7_same_82 : decode cX7_same 82 = .ok (.bipush 8, 2) := by decide +kernel
theorem dX7_same_84 : decode cX7_same 84 = .ok (.iload 4, 2) := by decide +kernel
theorem dX7_same_86 : decode cX7_same 86 = .ok (.imul, 1) := by decide +kernel
theorem dX7_same_87 : decode cX7_same 87 = .ok (.iload 7, 2) := by decide +kernel
theorem dX7_same_89 : decode cX7_same 89 = .ok (.iadd, 1) := by decide +kernel
theorem dX7_same_90 : decode cX7_same 90 = .ok (.laload, 1) := by decide +kernel
theorem dX7_same_91 : decode cX7_same 91 = .ok (.aload_n 0, 1) := by decide +kernel
theorem dX7_same_92 : decode cX7_same 92 = .ok (.getfield 64, 3) := by decide +kernel
theorem dX7_same_95 : decode cX7_same 95 = .ok (.bipush 8, 2) := by decide +kernel
theorem dX7_same_97 : decode cX7_same 97 = .ok (.iload 5, 2) := by decide +kernel
theorem dX7_same_99 : decode cX7_same 99 = .ok (.imul, 1) := by decide +kernel
theorem dX7_same_100 : decode cX7_same 100 = .ok (.iload 7, 2) := by decide +kernel
theorem dX7_same_102 : decode cX7_same 102 = .ok (.iadd, 1) := by decide +kernel
theorem dX7_same_103 : decode cX7_same 103 = .ok (.laload, 1) := by decide +kernel
theorem dX7_same_104 : decode cX7_same 104 = .ok (.lcmp, 1) := by decide +kernel
theorem dX7_same_105 : decode cX7_same 105 = .ok (.ifCond .ne 7, 3) := by decide +kernel
theorem dX7_same_108 : decode cX7_same 108 = .ok (.iconst 1, 1) := by decide +kernel
theorem dX7_same_109 : decode cX7_same 109 = .ok (.goto 4, 3) := by decide +kernel
theorem dX7_same_112 : decode cX7_same 112 = .ok (.iconst 0, 1) := by decide +kernel
theorem dX7_same_113 : decode cX7_same 113 = .ok (.istore 6, 2) := by decide +kernel
theorem dX7_same_115 : decode cX7_same 115 = .ok (.iinc 7 1, 3) := by decide +kernel
theorem dX7_same_118 : decode cX7_same 118 = .ok (.goto (-52), 3) := by decide +kernel
theorem dX7_same_121 : decode cX7_same 121 = .ok (.iload 6, 2) := by decide +kernel
theorem dX7_same_123 : decode cX7_same 123 = .ok (.ireturn, 1) := by decide +kernel
theorem dX7_handle_0 : decode cX7_handle 0 = .ok (.aload_n 0, 1) := by decide +kernel
theorem dX7_handle_1 : decode cX7_handle 1 = .ok (.iload_n 1, 1) := by decide +kernel
theorem dX7_handle_2 : decode cX7_handle 2 = .ok (.iload_n 2, 1) := by decide +kernel
theorem dX7_handle_3 : decode cX7_handle 3 = .ok (.invokevirtual 184, 3) := by decide +kernel
theorem dX7_handle_6 : decode cX7_handle 6 = .ok (.ifCond .eq 20, 3) := by decide +kernel
theorem dX7_handle_9 : decode cX7_handle 9 = .ok (.aload_n 0, 1) := by decide +kernel
theorem dX7_handle_10 : decode cX7_handle 10 = .ok (.getfield 70, 3) := by decide +kernel
theorem dX7_handle_13 : decode cX7_handle 13 = .ok (.iload_n 1, 1) := by decide +kernel
theorem dX7_handle_14 : decode cX7_handle 14 = .ok (.iload_n 2, 1) := by decide +kernel
theorem dX7_handle_15 : decode cX7_handle 15 = .ok (.invokestatic 132, 3) := by decide +kernel
theorem dX7_handle_18 : decode cX7_handle 18 = .ok (.iaload, 1) := by decide +kernel
theorem dX7_handle_19 : decode cX7_handle 19 = .ok (.ifCond .lt 7, 3) := by decide +kernel
theorem dX7_handle_22 : decode cX7_handle 22 = .ok (.iconst 1, 1) := by decide +kernel
theorem dX7_handle_23 : decode cX7_handle 23 = .ok (.goto 4, 3) := by decide +kernel
theorem dX7_handle_26 : decode cX7_handle 26 = .ok (.iconst 0, 1) := by decide +kernel
theorem dX7_handle_27 : decode cX7_handle 27 = .ok (.istore_n 3, 1) := by decide +kernel
theorem dX7_handle_28 : decode cX7_handle 28 = .ok (.aload_n 0, 1) := by decide +kernel
theorem dX7_handle_29 : decode cX7_handle 29 = .ok (.iload_n 3, 1) := by decide +kernel
theorem dX7_handle_30 : decode cX7_handle 30 = .ok (.ifCond .eq 7, 3) := by decide +kernel
theorem dX7_handle_33 : decode cX7_handle 33 = .ok (.iconst 1, 1) := by decide +kernel
theorem dX7_handle_34 : decode cX7_handle 34 = .ok (.goto 4, 3) := by decide +kernel
theorem dX7_handle_37 : decode cX7_handle 37 = .ok (.iconst 0, 1) := by decide +kernel
theorem dX7_handle_38 : decode cX7_handle 38 = .ok (.putfield 90, 3) := by decide +kernel
theorem dX7_handle_41 : decode cX7_handle 41 = .ok (.iload_n 3, 1) := by decide +kernel
theorem dX7_handle_42 : decode cX7_handle 42 = .ok (.ifCond .eq 5, 3) := by decide +kernel
theorem dX7_handle_45 : decode cX7_handle 45 = .ok (.iconst 0, 1) := by decide +kernel
theorem dX7_handle_46 : decode cX7_handle 46 = .ok (.ireturn, 1) := by decide +kernel
theorem dX7_handle_47 : decode cX7_handle 47 = .ok (.aload_n 0, 1) := by decide +kernel
theorem dX7_handle_48 : decode cX7_handle 48 = .ok (.aload_n 0, 1) := by decide +kernel
theorem dX7_handle_49 : decode cX7_handle 49 = .ok (.iload_n 1, 1) := by decide +kernel
theorem dX7_handle_50 : decode cX7_handle 50 = .ok (.invokevirtual 126, 3) := by decide +kernel
theorem dX7_handle_53 : decode cX7_handle 53 = .ok (.ifCond .eq 16, 3) := by decide +kernel
theorem dX7_handle_56 : decode cX7_handle 56 = .ok (.aload_n 0, 1) := by decide +kernel
theorem dX7_handle_57 : decode cX7_handle 57 = .ok (.iload_n 2, 1) := by decide +kernel
theorem dX7_handle_58 : decode cX7_handle 58 = .ok (.invokevirtual 129, 3) := by decide +kernel
theorem dX7_handle_61 : decode cX7_handle 61 = .ok (.ifCond .eq 8, 3) := by decide +kernel
theorem dX7_handle_64 : decode cX7_handle 64 = .ok (.bipush (-3), 2) := by decide +kernel
theorem dX7_handle_66 : decode cX7_handle 66 = .ok (.goto 4, 3) := by decide +kernel
theorem dX7_handle_69 : decode cX7_handle 69 = .ok (.iconst (-1), 1) := by decide +kernel
theorem dX7_handle_70 : decode cX7_handle 70 = .ok (.invokevirtual 100, 3) := by decide +kernel
theorem dX7_handle_73 : decode cX7_handle 73 = .ok (.ireturn, 1) := by decide +kernel
theorem dX7_octet_0 : decode cX7_octet 0 = .ok (.aload_n 0, 1) := by decide +kernel
theorem dX7_octet_1 : decode cX7_octet 1 = .ok (.aload_n 0, 1) := by decide +kernel
theorem dX7_octet_2 : decode cX7_octet 2 = .ok (.iload_n 1, 1) := by decide +kernel
theorem dX7_octet_3 : decode cX7_octet 3 = .ok (.invokevirtual 129, 3) := by decide +kernel
theorem dX7_octet_6 : decode cX7_octet 6 = .ok (.ifCond .eq 30, 3) := by decide +kernel
theorem dX7_octet_9 : decode cX7_octet 9 = .ok (.iload_n 2, 1) := by decide +kernel
theorem dX7_octet_10 : decode cX7_octet 10 = .ok (.ifCond .lt 26, 3) := by decide +kernel
theorem dX7_octet_13 : decode cX7_octet 13 = .ok (.iload_n 2, 1) := by decide +kernel
theorem dX7_octet_14 : decode cX7_octet 14 = .ok (.aload_n 0, 1) := by decide +kernel
theorem dX7_octet_15 : decode cX7_octet 15 = .ok (.getfield 20, 3) := by decide +kernel
theorem dX7_octet_18 : decode cX7_octet 18 = .ok (.iload_n 1, 1) := by decide +kernel
theorem dX7_octet_19 : decode cX7_octet 19 = .ok (.aload_n 0, 1) := by decide +kernel
theorem dX7_octet_20 : decode cX7_octet 20 = .ok (.getfield 13, 3) := by decide +kernel
theorem dX7_octet_23 : decode cX7_octet 23 = .ok (.iload_n 1, 1) := by decide +kernel
theorem dX7_octet_24 : decode cX7_octet 24 = .ok (.iaload, 1) := by decide +kernel
theorem dX7_octet_25 : decode cX7_octet 25 = .ok (.invokestatic 118, 3) := by decide +kernel
theorem dX7_octet_28 : decode cX7_octet 28 = .ok (.iaload, 1) := by decide +kernel
theorem dX7_octet_29 : decode cX7_octet 29 = .ok (.if_icmp .ge 7, 3) := by decide +kernel
theorem dX7_octet_32 : decode cX7_octet 32 = .ok (.iconst 0, 1) := by decide +kernel
theorem dX7_octet_33 : decode cX7_octet 33 = .ok (.goto 4, 3) := by decide +kernel
theorem dX7_octet_36 : decode cX7_octet 36 = .ok (.iconst 1, 1) := by decide +kernel
theorem dX7_octet_37 : decode cX7_octet 37 = .ok (.putfield 90, 3) := by decide +kernel
theorem dX7_octet_40 : decode cX7_octet 40 = .ok (.aload_n 0, 1) := by decide +kernel
theorem dX7_octet_41 : decode cX7_octet 41 = .ok (.getfield 90, 3) := by decide +kernel
theorem dX7_octet_44 : decode cX7_octet 44 = .ok (.ifCond .le 7, 3) := by decide +kernel
theorem dX7_octet_47 : decode cX7_octet 47 = .ok (.iconst 0, 1) := by decide +kernel
theorem dX7_octet_48 : decode cX7_octet 48 = .ok (.goto 23, 3) := by decide +kernel
theorem dX7_octet_51 : decode cX7_octet 51 = .ok (.aload_n 0, 1) := by decide +kernel
theorem dX7_octet_52 : decode cX7_octet 52 = .ok (.getfield 17, 3) := by decide +kernel
theorem dX7_octet_55 : decode cX7_octet 55 = .ok (.bipush 120, 2) := by decide +kernel
theorem dX7_octet_57 : decode cX7_octet 57 = .ok (.iload_n 1, 1) := by decide +kernel
theorem dX7_octet_58 : decode cX7_octet 58 = .ok (.aload_n 0, 1) := by decide +kernel
theorem dX7_octet_59 : decode cX7_octet 59 = .ok (.getfield 13, 3) := by decide +kernel
theorem dX7_octet_62 : decode cX7_octet 62 = .ok (.iload_n 1, 1) := by decide +kernel
theorem dX7_octet_63 : decode cX7_octet 63 = .ok (.iaload, 1) := by decide +kernel
theorem dX7_octet_64 : decode cX7_octet 64 = .ok (.invokestatic 118, 3) := by decide +kernel
theorem dX7_octet_67 : decode cX7_octet 67 = .ok (.imul, 1) := by decide +kernel
theorem dX7_octet_68 : decode cX7_octet 68 = .ok (.iload_n 2, 1) := by decide +kernel
theorem dX7_octet_69 : decode cX7_octet 69 = .ok (.iadd, 1) := by decide +kernel
theorem dX7_octet_70 : decode cX7_octet 70 = .ok (.baload, 1) := by decide +kernel
theorem dX7_octet_71 : decode cX7_octet 71 = .ok (.ireturn, 1) := by decide +kernel
theorem dX7_divide_0 : decode cX7_divide 0 = .ok (.aload_n 0, 1) := by decide +kernel
theorem dX7_divide_1 : decode cX7_divide 1 = .ok (.lload_n 3, 1) := by decide +kernel
theorem dX7_divide_2 : decode cX7_divide 2 = .ok (.lconst 0, 1) := by decide +kernel
theorem dX7_divide_3 : decode cX7_divide 3 = .ok (.lcmp, 1) := by decide +kernel
theorem dX7_divide_4 : decode cX7_divide 4 = .ok (.ifCond .ne 7, 3) := by decide +kernel
theorem dX7_divide_7 : decode cX7_divide 7 = .ok (.iconst 1, 1) := by decide +kernel
theorem dX7_divide_8 : decode cX7_divide 8 = .ok (.goto 4, 3) := by decide +kernel
theorem dX7_divide_11 : decode cX7_divide 11 = .ok (.iconst 0, 1) := by decide +kernel
theorem dX7_divide_12 : decode cX7_divide 12 = .ok (.putfield 90, 3) := by decide +kernel
theorem dX7_divide_15 : decode cX7_divide 15 = .ok (.aload_n 0, 1) := by decide +kernel
theorem dX7_divide_16 : decode cX7_divide 16 = .ok (.getfield 90, 3) := by decide +kernel
theorem dX7_divide_19 : decode cX7_divide 19 = .ok (.ifCond .le 7, 3) := by decide +kernel
theorem dX7_divide_22 : decode cX7_divide 22 = .ok (.lconst 0, 1) := by decide +kernel
theorem dX7_divide_23 : decode cX7_divide 23 = .ok (.goto 6, 3) := by decide +kernel
theorem dX7_divide_26 : decode cX7_divide 26 = .ok (.lload_n 1, 1) := by decide +kernel
theorem dX7_divide_27 : decode cX7_divide 27 = .ok (.lload_n 3, 1) := by decide +kernel
theorem dX7_divide_28 : decode cX7_divide 28 = .ok (.ldiv, 1) := by decide +kernel
theorem dX7_divide_29 : decode cX7_divide 29 = .ok (.lreturn, 1) := by decide +kernel
theorem dX7_refused_0 : decode cX7_refused 0 = .ok (.aload_n 0, 1) := by decide +kernel
theorem dX7_refused_1 : decode cX7_refused 1 = .ok (.iconst 0, 1) := by decide +kernel
theorem dX7_refused_2 : decode cX7_refused 2 = .ok (.putfield 90, 3) := by decide +kernel
theorem dX7_refused_5 : decode cX7_refused 5 = .ok (.aload_n 0, 1) := by decide +kernel
theorem dX7_refused_6 : decode cX7_refused 6 = .ok (.getfield 93, 3) := by decide +kernel
theorem dX7_refused_9 : decode cX7_refused 9 = .ok (.ireturn, 1) := by decide +kernel
theorem dJx00060_init_a7421_0 : decode cJx00060_init_a7421 0 = .ok (.aload_n 0, 1) := by decide +kernel
theorem dJx00060_init_a7421_1 : decode cJx00060_init_a7421 1 = .ok (.aload_n 1, 1) := by decide +kernel
theorem dJx00060_init_a7421_2 : decode cJx00060_init_a7421 2 = .ok (.invokespecial 7, 3) := by decide +kernel
theorem dJx00060_init_a7421_5 : decode cJx00060_init_a7421 5 = .ok (.return_, 1) := by decide +kernel
theorem dJx29ce0_ordinal_8abf5_0 : decode cJx29ce0_ordinal_8abf5 0 = .ok (.aload_n 0, 1) := by decide +kernel
theorem dJx29ce0_ordinal_8abf5_1 : decode cJx29ce0_ordinal_8abf5 1 = .ok (.getfield 7, 3) := by decide +kernel
theorem dJx29ce0_ordinal_8abf5_4 : decode cJx29ce0_ordinal_8abf5 4 = .ok (.ireturn, 1) := by decide +kernel
theorem dJ9_max_7cf53_0 : decode cJ9_max_7cf53 0 = .ok (.iload_n 0, 1) := by decide +kernel
theorem dJ9_max_7cf53_1 : decode cJ9_max_7cf53 1 = .ok (.iload_n 1, 1) := by decide +kernel
theorem dJ9_max_7cf53_2 : decode cJ9_max_7cf53 2 = .ok (.if_icmp .lt 7, 3) := by decide +kernel
theorem dJ9_max_7cf53_5 : decode cJ9_max_7cf53 5 = .ok (.iload_n 0, 1) := by decide +kernel
theorem dJ9_max_7cf53_6 : decode cJ9_max_7cf53 6 = .ok (.goto 4, 3) := by decide +kernel
theorem dJ9_max_7cf53_9 : decode cJ9_max_7cf53 9 = .ok (.iload_n 1, 1) := by decide +kernel
theorem dJ9_max_7cf53_10 : decode cJ9_max_7cf53 10 = .ok (.ireturn, 1) := by decide +kernel
theorem dJ9_min_7cf53_0 : decode cJ9_min_7cf53 0 = .ok (.iload_n 0, 1) := by decide +kernel
theorem dJ9_min_7cf53_1 : decode cJ9_min_7cf53 1 = .ok (.iload_n 1, 1) := by decide +kernel
theorem dJ9_min_7cf53_2 : decode cJ9_min_7cf53 2 = .ok (.if_icmp .gt 7, 3) := by decide +kernel
theorem dJ9_min_7cf53_5 : decode cJ9_min_7cf53 5 = .ok (.iload_n 0, 1) := by decide +kernel
theorem dJ9_min_7cf53_6 : decode cJ9_min_7cf53 6 = .ok (.goto 4, 3) := by decide +kernel
theorem dJ9_min_7cf53_9 : decode cJ9_min_7cf53 9 = .ok (.iload_n 1, 1) := by decide +kernel
theorem dJ9_min_7cf53_10 : decode cJ9_min_7cf53 10 = .ok (.ireturn, 1) := by decide +kernel
theorem dJ7_fill_d0a16_0 : decode cJ7_fill_d0a16 0 = .ok (.iconst 0, 1) := by decide +kernel
theorem dJ7_fill_d0a16_1 : decode cJ7_fill_d0a16 1 = .ok (.istore_n 3, 1) := by decide +kernel
theorem dJ7_fill_d0a16_2 : decode cJ7_fill_d0a16 2 = .ok (.aload_n 0, 1) := by decide +kernel
theorem dJ7_fill_d0a16_3 : decode cJ7_fill_d0a16 3 = .ok (.arraylength, 1) := by decide +kernel
theorem dJ7_fill_d0a16_4 : decode cJ7_fill_d0a16 4 = .ok (.istore 4, 2) := by decide +kernel
theorem dJ7_fill_d0a16_6 : decode cJ7_fill_d0a16 6 = .ok (.iload_n 3, 1) := by decide +kernel
theorem dJ7_fill_d0a16_7 : decode cJ7_fill_d0a16 7 = .ok (.iload 4, 2) := by decide +kernel
theorem dJ7_fill_d0a16_9 : decode cJ7_fill_d0a16 9 = .ok (.if_icmp .ge 13, 3) := by decide +kernel
theorem dJ7_fill_d0a16_12 : decode cJ7_fill_d0a16 12 = .ok (.aload_n 0, 1) := by decide +kernel
theorem dJ7_fill_d0a16_13 : decode cJ7_fill_d0a16 13 = .ok (.iload_n 3, 1) := by decide +kernel
theorem dJ7_fill_d0a16_14 : decode cJ7_fill_d0a16 14 = .ok (.lload_n 1, 1) := by decide +kernel
theorem dJ7_fill_d0a16_15 : decode cJ7_fill_d0a16 15 = .ok (.lastore, 1) := by decide +kernel
theorem dJ7_fill_d0a16_16 : decode cJ7_fill_d0a16 16 = .ok (.iinc 3 1, 3) := by decide +kernel
theorem dJ7_fill_d0a16_19 : decode cJ7_fill_d0a16 19 = .ok (.goto (-13), 3) := by decide +kernel
theorem dJ7_fill_d0a16_22 : decode cJ7_fill_d0a16 22 = .ok (.return_, 1) := by decide +kernel
theorem dJ7_checkLength_df160_0 : decode cJ7_checkLength_df160 0 = .ok (.iload_n 1, 1) := by decide +kernel
theorem dJ7_checkLength_df160_1 : decode cJ7_checkLength_df160 1 = .ok (.iload_n 0, 1) := by decide +kernel
theorem dJ7_checkLength_df160_2 : decode cJ7_checkLength_df160 2 = .ok (.if_icmp .ge 35, 3) := by decide +kernel
theorem dJ7_checkLength_df160_5 : decode cJ7_checkLength_df160 5 = .ok (.new 43, 3) := by decide +kernel
theorem dJ7_checkLength_df160_8 : decode cJ7_checkLength_df160 8 = .ok (.dup, 1) := by decide +kernel
theorem dJ7_checkLength_df160_9 : decode cJ7_checkLength_df160 9 = .ok (.new 45, 3) := by decide +kernel
theorem dJ7_checkLength_df160_12 : decode cJ7_checkLength_df160 12 = .ok (.dup, 1) := by decide +kernel
theorem dJ7_checkLength_df160_13 : decode cJ7_checkLength_df160 13 = .ok (.invokespecial 47, 3) := by decide +kernel
theorem dJ7_checkLength_df160_16 : decode cJ7_checkLength_df160 16 = .ok (.iload_n 0, 1) := by decide +kernel
theorem dJ7_checkLength_df160_17 : decode cJ7_checkLength_df160 17 = .ok (.invokevirtual 54, 3) := by decide +kernel
theorem dJ7_checkLength_df160_20 : decode cJ7_checkLength_df160 20 = .ok (.ldc_w 337, 3) := by decide +kernel
theorem dJ7_checkLength_df160_23 : decode cJ7_checkLength_df160 23 = .ok (.invokevirtual 50, 3) := by decide +kernel
theorem dJ7_checkLength_df160_26 : decode cJ7_checkLength_df160 26 = .ok (.iload_n 1, 1) := by decide +kernel
theorem dJ7_checkLength_df160_27 : decode cJ7_checkLength_df160 27 = .ok (.invokevirtual 54, 3) := by decide +kernel
theorem dJ7_checkLength_df160_30 : decode cJ7_checkLength_df160 30 = .ok (.invokevirtual 61, 3) := by decide +kernel
theorem dJ7_checkLength_df160_33 : decode cJ7_checkLength_df160 33 = .ok (.invokespecial 65, 3) := by decide +kernel
theorem dJ7_checkLength_df160_36 : decode cJ7_checkLength_df160 36 = .ok (.athrow, 1) := by decide +kernel
theorem dJ7_checkLength_df160_37 : decode cJ7_checkLength_df160 37 = .ok (.return_, 1) := by decide +kernel
theorem dJ7_copyOfRange_39247_0 : decode cJ7_copyOfRange_39247 0 = .ok (.iload_n 1, 1) := by decide +kernel
theorem dJ7_copyOfRange_39247_1 : decode cJ7_copyOfRange_39247 1 = .ok (.ifCond .ne 9, 3) := by decide +kernel
theorem dJ7_copyOfRange_39247_4 : decode cJ7_copyOfRange_39247 4 = .ok (.iload_n 2, 1) := by decide +kernel
theorem dJ7_copyOfRange_39247_5 : decode cJ7_copyOfRange_39247 5 = .ok (.aload_n 0, 1) := by decide +kernel
theorem dJ7_copyOfRange_39247_6 : decode cJ7_copyOfRange_39247 6 = .ok (.arraylength, 1) := by decide +kernel
theorem dJ7_copyOfRange_39247_7 : decode cJ7_copyOfRange_39247 7 = .ok (.if_icmp .eq 10, 3) := by decide +kernel
theorem dJ7_copyOfRange_39247_10 : decode cJ7_copyOfRange_39247 10 = .ok (.aload_n 0, 1) := by decide +kernel
theorem dJ7_copyOfRange_39247_11 : decode cJ7_copyOfRange_39247 11 = .ok (.iload_n 1, 1) := by decide +kernel
theorem dJ7_copyOfRange_39247_12 : decode cJ7_copyOfRange_39247 12 = .ok (.iload_n 2, 1) := by decide +kernel
theorem dJ7_copyOfRange_39247_13 : decode cJ7_copyOfRange_39247 13 = .ok (.invokestatic 339, 3) := by decide +kernel
theorem dJ7_copyOfRange_39247_16 : decode cJ7_copyOfRange_39247 16 = .ok (.areturn, 1) := by decide +kernel
theorem dJ7_copyOfRange_39247_17 : decode cJ7_copyOfRange_39247 17 = .ok (.aload_n 0, 1) := by decide +kernel
theorem dJ7_copyOfRange_39247_18 : decode cJ7_copyOfRange_39247 18 = .ok (.invokevirtual 310, 3) := by decide +kernel
theorem dJ7_copyOfRange_39247_21 : decode cJ7_copyOfRange_39247 21 = .ok (.checkcast 311, 3) := by decide +kernel
theorem dJ7_copyOfRange_39247_24 : decode cJ7_copyOfRange_39247 24 = .ok (.areturn, 1) := by decide +kernel
theorem dJ7_copyOfRangeByte_39247_0 : decode cJ7_copyOfRangeByte_39247 0 = .ok (.iload_n 1, 1) := by decide +kernel
theorem dJ7_copyOfRangeByte_39247_1 : decode cJ7_copyOfRangeByte_39247 1 = .ok (.iload_n 2, 1) := by decide +kernel
theorem dJ7_copyOfRangeByte_39247_2 : decode cJ7_copyOfRangeByte_39247 2 = .ok (.invokestatic 343, 3) := by decide +kernel
theorem dJ7_copyOfRangeByte_39247_5 : decode cJ7_copyOfRangeByte_39247 5 = .ok (.iload_n 2, 1) := by decide +kernel
theorem dJ7_copyOfRangeByte_39247_6 : decode cJ7_copyOfRangeByte_39247 6 = .ok (.iload_n 1, 1) := by decide +kernel
theorem dJ7_copyOfRangeByte_39247_7 : decode cJ7_copyOfRangeByte_39247 7 = .ok (.isub, 1) := by decide +kernel
theorem dJ7_copyOfRangeByte_39247_8 : decode cJ7_copyOfRangeByte_39247 8 = .ok (.istore_n 3, 1) := by decide +kernel
theorem dJ7_copyOfRangeByte_39247_9 : decode cJ7_copyOfRangeByte_39247 9 = .ok (.iload_n 3, 1) := by decide +kernel
theorem dJ7_copyOfRangeByte_39247_10 : decode cJ7_copyOfRangeByte_39247 10 = .ok (.newarray .byte, 2) := by decide +kernel
theorem dJ7_copyOfRangeByte_39247_12 : decode cJ7_copyOfRangeByte_39247 12 = .ok (.astore 4, 2) := by decide +kernel
theorem dJ7_copyOfRangeByte_39247_14 : decode cJ7_copyOfRangeByte_39247 14 = .ok (.aload_n 0, 1) := by decide +kernel
theorem dJ7_copyOfRangeByte_39247_15 : decode cJ7_copyOfRangeByte_39247 15 = .ok (.iload_n 1, 1) := by decide +kernel
theorem dJ7_copyOfRangeByte_39247_16 : decode cJ7_copyOfRangeByte_39247 16 = .ok (.aload 4, 2) := by decide +kernel
theorem dJ7_copyOfRangeByte_39247_18 : decode cJ7_copyOfRangeByte_39247 18 = .ok (.iconst 0, 1) := by decide +kernel
theorem dJ7_copyOfRangeByte_39247_19 : decode cJ7_copyOfRangeByte_39247 19 = .ok (.aload_n 0, 1) := by decide +kernel
theorem dJ7_copyOfRangeByte_39247_20 : decode cJ7_copyOfRangeByte_39247 20 = .ok (.arraylength, 1) := by decide +kernel
theorem dJ7_copyOfRangeByte_39247_21 : decode cJ7_copyOfRangeByte_39247 21 = .ok (.iload_n 1, 1) := by decide +kernel
theorem dJ7_copyOfRangeByte_39247_22 : decode cJ7_copyOfRangeByte_39247 22 = .ok (.isub, 1) := by decide +kernel
theorem dJ7_copyOfRangeByte_39247_23 : decode cJ7_copyOfRangeByte_39247 23 = .ok (.iload_n 3, 1) := by decide +kernel
theorem dJ7_copyOfRangeByte_39247_24 : decode cJ7_copyOfRangeByte_39247 24 = .ok (.invokestatic 304, 3) := by decide +kernel
theorem dJ7_copyOfRangeByte_39247_27 : decode cJ7_copyOfRangeByte_39247 27 = .ok (.invokestatic 150, 3) := by decide +kernel
theorem dJ7_copyOfRangeByte_39247_30 : decode cJ7_copyOfRangeByte_39247 30 = .ok (.aload 4, 2) := by decide +kernel
theorem dJ7_copyOfRangeByte_39247_32 : decode cJ7_copyOfRangeByte_39247 32 = .ok (.areturn, 1) := by decide +kernel
