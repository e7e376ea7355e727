theorem d_J_perform_296 : decode c_J_perform 296 = .ok (.aload_n 1, 1) := by decide +kernel
theorem d_J_perform_297 : decode c_J_perform 297 = .ok (.iconst 1, 1) := by decide +kernel
theorem d_J_perform_298 : decode c_J_perform 298 = .ok (.aload_n 0, 1) := by decide +kernel
theorem d_J_perform_299 : decode c_J_perform 299 = .ok (.getfield 11, 3) := by decide +kernel
theorem d_J_perform_302 : decode c_J_perform 302 = .ok (.iload 6, 2) := by decide +kernel
theorem d_J_perform_304 : decode c_J_perform 304 = .ok (.aaload, 1) := by decide +kernel
theorem d_J_perform_305 : decode c_J_perform 305 = .ok (.aload_n 0, 1) := by decide +kernel
theorem d_J_perform_306 : decode c_J_perform 306 = .ok (.getfield 11, 3) := by decide +kernel
theorem d_J_perform_309 : decode c_J_perform 309 = .ok (.iload 7, 2) := by decide +kernel
theorem d_J_perform_311 : decode c_J_perform 311 = .ok (.aaload, 1) := by decide +kernel
theorem d_J_perform_312 : decode c_J_perform 312 = .ok (.invokestatic 278, 3) := by decide +kernel
theorem d_J_perform_315 : decode c_J_perform 315 = .ok (.ireturn, 1) := by decide +kernel
theorem d_J_perform_316 : decode c_J_perform 316 = .ok (.aload_n 1, 1) := by decide +kernel
theorem d_J_perform_317 : decode c_J_perform 317 = .ok (.iconst 2, 1) := by decide +kernel
theorem d_J_perform_318 : decode c_J_perform 318 = .ok (.aload_n 0, 1) := by decide +kernel
theorem d_J_perform_319 : decode c_J_perform 319 = .ok (.getfield 11, 3) := by decide +kernel
theorem d_J_perform_322 : decode c_J_perform 322 = .ok (.iload 6, 2) := by decide +kernel
theorem d_J_perform_324 : decode c_J_perform 324 = .ok (.aaload, 1) := by decide +kernel
theorem d_J_perform_325 : decode c_J_perform 325 = .ok (.aload_n 0, 1) := by decide +kernel
theorem d_J_perform_326 : decode c_J_perform 326 = .ok (.getfield 11, 3) := by decide +kernel
theorem d_J_perform_329 : decode c_J_perform 329 = .ok (.iload 7, 2) := by decide +kernel
theorem d_J_perform_331 : decode c_J_perform 331 = .ok (.aaload, 1) := by decide +kernel
theorem d_J_perform_332 : decode c_J_perform 332 = .ok (.invokestatic 278, 3) := by decide +kernel
theorem d_J_perform_335 : decode c_J_perform 335 = .ok (.ireturn, 1) := by decide +kernel
theorem d_J_perform_336 : decode c_J_perform 336 = .ok (.aload_n 1, 1) := by decide +kernel
theorem d_J_perform_337 : decode c_J_perform 337 = .ok (.iconst 4, 1) := by decide +kernel
theorem d_J_perform_338 : decode c_J_perform 338 = .ok (.aload_n 0, 1) := by decide +kernel
theorem d_J_perform_339 : decode c_J_perform 339 = .ok (.getfield 11, 3) := by decide +kernel
theorem d_J_perform_342 : decode c_J_perform 342 = .ok (.iload 6, 2) := by decide +kernel
theorem d_J_perform_344 : decode c_J_perform 344 = .ok (.aaload, 1) := by decide +kernel
theorem d_J_perform_345 : decode c_J_perform 345 = .ok (.aload_n 0, 1) := by decide +kernel
theorem d_J_perform_346 : decode c_J_perform 346 = .ok (.getfield 11, 3) := by decide +kernel
theorem d_J_perform_349 : decode c_J_perform 349 = .ok (.iload 6, 2) := by decide +kernel
theorem d_J_perform_351 : decode c_J_perform 351 = .ok (.aaload, 1) := by decide +kernel
theorem d_J_perform_352 : decode c_J_perform 352 = .ok (.invokestatic 278, 3) := by decide +kernel
theorem d_J_perform_355 : decode c_J_perform 355 = .ok (.ireturn, 1) := by decide +kernel
theorem d_J_perform_356 : decode c_J_perform 356 = .ok (.aload_n 1, 1) := by decide +kernel
theorem d_J_perform_357 : decode c_J_perform 357 = .ok (.dup, 1) := by decide +kernel
theorem d_J_perform_358 : decode c_J_perform 358 = .ok (.getfield 103, 3) := by decide +kernel
theorem d_J_perform_361 : decode c_J_perform 361 = .ok (.iload 6, 2) := by decide +kernel
theorem d_J_perform_363 : decode c_J_perform 363 = .ok (.iadd, 1) := by decide +kernel
theorem d_J_perform_364 : decode c_J_perform 364 = .ok (.putfield 103, 3) := by decide +kernel
theorem d_J_perform_367 : decode c_J_perform 367 = .ok (.aload_n 2, 1) := by decide +kernel
theorem d_J_perform_368 : decode c_J_perform 368 = .ok (.aload_n 3, 1) := by decide +kernel
theorem d_J_perform_369 : decode c_J_perform 369 = .ok (.getfield 46, 3) := by decide +kernel
theorem d_J_perform_372 : decode c_J_perform 372 = .ok (.putfield 195, 3) := by decide +kernel
theorem d_J_perform_375 : decode c_J_perform 375 = .ok (.iconst (-1), 1) := by decide +kernel
theorem d_J_perform_376 : decode c_J_perform 376 = .ok (.ireturn, 1) := by decide +kernel
theorem d_J_perform_377 : decode c_J_perform 377 = .ok (.aload_n 0, 1) := by decide +kernel
theorem d_J_perform_378 : decode c_J_perform 378 = .ok (.aload_n 1, 1) := by decide +kernel
theorem d_J_perform_379 : decode c_J_perform 379 = .ok (.getfield 75, 3) := by decide +kernel
theorem d_J_perform_382 : decode c_J_perform 382 = .ok (.iconst (-1), 1) := by decide +kernel
theorem d_J_perform_383 : decode c_J_perform 383 = .ok (.if_icmp .ne 7, 3) := by decide +kernel
theorem d_J_perform_386 : decode c_J_perform 386 = .ok (.iconst 1, 1) := by decide +kernel
theorem d_J_perform_387 : decode c_J_perform 387 = .ok (.goto 4, 3) := by decide +kernel
theorem d_J_perform_390 : decode c_J_perform 390 = .ok (.iconst 0, 1) := by decide +kernel
theorem d_J_perform_391 : decode c_J_perform 391 = .ok (.invokevirtual 219, 3) := by decide +kernel
theorem d_J_perform_394 : decode c_J_perform 394 = .ok (.iconst (-1), 1) := by decide +kernel
theorem d_J_perform_395 : decode c_J_perform 395 = .ok (.ireturn, 1) := by decide +kernel
theorem d_J_perform_396 : decode c_J_perform 396 = .ok (.iconst (-1), 1) := by decide +kernel
theorem d_J_perform_397 : decode c_J_perform 397 = .ok (.ireturn, 1) := by decide +kernel
theorem d_A_canWait_0 : decode c_A_canWait 0 = .ok (.iload_n 0, 1) := by decide +kernel
theorem d_A_canWait_1 : decode c_A_canWait 1 = .ok (.tableswitch 57 1 10 #[55, 55, 57, 55, 55, 57, 57, 55, 55, 55], 55) := by decide +kernel
theorem d_A_canWait_56 : decode c_A_canWait 56 = .ok (.iconst 1, 1) := by decide +kernel
theorem d_A_canWait_57 : decode c_A_canWait 57 = .ok (.ireturn, 1) := by decide +kernel
theorem d_A_canWait_58 : decode c_A_canWait 58 = .ok (.iconst 0, 1) := by decide +kernel
theorem d_A_canWait_59 : decode c_A_canWait 59 = .ok (.ireturn, 1) := by decide +kernel
theorem d_J_beginTimer_0 : decode c_J_beginTimer 0 = .ok (.aload_n 1, 1) := by decide +kernel
theorem d_J_beginTimer_1 : decode c_J_beginTimer 1 = .ok (.aload_n 0, 1) := by decide +kernel
theorem d_J_beginTimer_2 : decode c_J_beginTimer 2 = .ok (.getfield 135, 3) := by decide +kernel
theorem d_J_beginTimer_5 : decode c_J_beginTimer 5 = .ok (.iload_n 2, 1) := by decide +kernel
theorem d_J_beginTimer_6 : decode c_J_beginTimer 6 = .ok (.iadd, 1) := by decide +kernel
theorem d_J_beginTimer_7 : decode c_J_beginTimer 7 = .ok (.putfield 282, 3) := by decide +kernel
theorem d_J_beginTimer_10 : decode c_J_beginTimer 10 = .ok (.aload_n 1, 1) := by decide +kernel
theorem d_J_beginTimer_11 : decode c_J_beginTimer 11 = .ok (.aload_n 0, 1) := by decide +kernel
theorem d_J_beginTimer_12 : decode c_J_beginTimer 12 = .ok (.getfield 285, 3) := by decide +kernel
theorem d_J_beginTimer_15 : decode c_J_beginTimer 15 = .ok (.putfield 288, 3) := by decide +kernel
theorem d_J_beginTimer_18 : decode c_J_beginTimer 18 = .ok (.aload_n 0, 1) := by decide +kernel
theorem d_J_beginTimer_19 : decode c_J_beginTimer 19 = .ok (.dup, 1) := by decide +kernel
theorem d_J_beginTimer_20 : decode c_J_beginTimer 20 = .ok (.getfield 285, 3) := by decide +kernel
theorem d_J_beginTimer_23 : decode c_J_beginTimer 23 = .ok (.iconst 1, 1) := by decide +kernel
theorem d_J_beginTimer_24 : decode c_J_beginTimer 24 = .ok (.iadd, 1) := by decide +kernel
theorem d_J_beginTimer_25 : decode c_J_beginTimer 25 = .ok (.putfield 285, 3) := by decide +kernel
theorem d_J_beginTimer_28 : decode c_J_beginTimer 28 = .ok (.return_, 1) := by decide +kernel
theorem d_J_launch_0 : decode c_J_launch 0 = .ok (.aload_n 0, 1) := by decide +kernel
theorem d_J_launch_1 : decode c_J_launch 1 = .ok (.getfield 57, 3) := by decide +kernel
theorem d_J_launch_4 : decode c_J_launch 4 = .ok (.bipush 24, 2) := by decide +kernel
theorem d_J_launch_6 : decode c_J_launch 6 = .ok (.if_icmp .lt 6, 3) := by decide +kernel
theorem d_J_launch_9 : decode c_J_launch 9 = .ok (.bipush 96, 2) := by decide +kernel
theorem d_J_launch_11 : decode c_J_launch 11 = .ok (.ireturn, 1) := by decide +kernel
theorem d_J_launch_12 : decode c_J_launch 12 = .ok (.aload_n 1, 1) := by decide +kernel
theorem d_J_launch_13 : decode c_J_launch 13 = .ok (.getfield 123, 3) := by decide +kernel
theorem d_J_launch_16 : decode c_J_launch 16 = .ok (.iload_n 3, 1) := by decide +kernel
theorem d_J_launch_17 : decode c_J_launch 17 = .ok (.aload_n 0, 1) := by decide +kernel
theorem d_J_launch_18 : decode c_J_launch 18 = .ok (.aload_n 1, 1) := by decide +kernel
theorem d_J_launch_19 : decode c_J_launch 19 = .ok (.iconst 1, 1) := by decide +kernel
theorem d_J_launch_20 : decode c_J_launch 20 = .ok (.aload_n 2, 1) := by decide +kernel
theorem d_J_launch_21 : decode c_J_launch 21 = .ok (.invokevirtual 60, 3) := by decide +kernel
theorem d_J_launch_24 : decode c_J_launch 24 = .ok (.aastore, 1) := by decide +kernel
theorem d_J_launch_25 : decode c_J_launch 25 = .ok (.iconst (-1), 1) := by decide +kernel
theorem d_J_launch_26 : decode c_J_launch 26 = .ok (.ireturn, 1) := by decide +kernel
theorem d_J_waitForSlot_0 : decode c_J_waitForSlot 0 = .ok (.aload_n 2, 1) := by decide +kernel
theorem d_J_waitForSlot_1 : decode c_J_waitForSlot 1 = .ok (.ifnonnull 5, 3) := by decide +kernel
theorem d_J_waitForSlot_4 : decode c_J_waitForSlot 4 = .ok (.iconst (-1), 1) := by decide +kernel
theorem d_J_waitForSlot_5 : decode c_J_waitForSlot 5 = .ok (.ireturn, 1) := by decide +kernel
theorem d_J_waitForSlot_6 : decode c_J_waitForSlot 6 = .ok (.aload_n 2, 1) := by decide +kernel
theorem d_J_waitForSlot_7 : decode c_J_waitForSlot 7 = .ok (.getfield 71, 3) := by decide +kernel
theorem d_J_waitForSlot_10 : decode c_J_waitForSlot 10 = .ok (.ifCond .ne 16, 3) := by decide +kernel
theorem d_J_waitForSlot_13 : decode c_J_waitForSlot 13 = .ok (.aload_n 0, 1) := by decide +kernel
theorem d_J_waitForSlot_14 : decode c_J_waitForSlot 14 = .ok (.iload_n 1, 1) := by decide +kernel
theorem d_J_waitForSlot_15 : decode c_J_waitForSlot 15 = .ok (.putfield 158, 3) := by decide +kernel
theorem d_J_waitForSlot_18 : decode c_J_waitForSlot 18 = .ok (.aload_n 0, 1) := by decide +kernel
theorem d_J_waitForSlot_19 : decode c_J_waitForSlot 19 = .ok (.aload_n 2, 1) := by decide +kernel
theorem d_J_waitForSlot_20 : decode c_J_waitForSlot 20 = .ok (.putfield 161, 3) := by decide +kernel
theorem d_J_waitForSlot_23 : decode c_J_waitForSlot 23 = .ok (.bipush (-2), 2) := by decide +kernel
theorem d_J_waitForSlot_25 : decode c_J_waitForSlot 25 = .ok (.ireturn, 1) := by decide +kernel
theorem d_J_waitForSlot_26 : decode c_J_waitForSlot 26 = .ok (.iload_n 1, 1) := by decide +kernel
theorem d_J_waitForSlot_27 : decode c_J_waitForSlot 27 = .ok (.iconst 5, 1) := by decide +kernel
theorem d_J_waitForSlot_28 : decode c_J_waitForSlot 28 = .ok (.if_icmp .ne 7, 3) := by decide +kernel
theorem d_J_waitForSlot_31 : decode c_J_waitForSlot 31 = .ok (.iconst (-1), 1) := by decide +kernel
theorem d_J_waitForSlot_32 : decode c_J_waitForSlot 32 = .ok (.goto 8, 3) := by decide +kernel
theorem d_J_waitForSlot_35 : decode c_J_waitForSlot 35 = .ok (.aload_n 0, 1) := by decide +kernel
theorem d_J_waitForSlot_36 : decode c_J_waitForSlot 36 = .ok (.aload_n 2, 1) := by decide +kernel
theorem d_J_waitForSlot_37 : decode c_J_waitForSlot 37 = .ok (.invokestatic 239, 3) := by decide +kernel
theorem d_J_waitForSlot_40 : decode c_J_waitForSlot 40 = .ok (.ireturn, 1) := by decide +kernel
theorem d_J_cancelFrom_0 : decode c_J_cancelFrom 0 = .ok (.iload_n 2, 1) := by decide +kernel
theorem d_J_cancelFrom_1 : decode c_J_cancelFrom 1 = .ok (.ifCond .ge 7, 3) := by decide +kernel
theorem d_J_cancelFrom_4 : decode c_J_cancelFrom 4 = .ok (.aload_n 1, 1) := by decide +kernel
theorem d_J_cancelFrom_5 : decode c_J_cancelFrom 5 = .ok (.goto 9, 3) := by decide +kernel
theorem d_J_cancelFrom_8 : decode c_J_cancelFrom 8 = .ok (.aload_n 1, 1) := by decide +kernel
theorem d_J_cancelFrom_9 : decode c_J_cancelFrom 9 = .ok (.getfield 123, 3) := by decide +kernel
theorem d_J_cancelFrom_12 : decode c_J_cancelFrom 12 = .ok (.iload_n 2, 1) := by decide +kernel
theorem d_J_cancelFrom_13 : decode c_J_cancelFrom 13 = .ok (.aaload, 1) := by decide +kernel
theorem d_J_cancelFrom_14 : decode c_J_cancelFrom 14 = .ok (.astore_n 3, 1) := by decide +kernel
theorem d_J_cancelFrom_15 : decode c_J_cancelFrom 15 = .ok (.aload_n 3, 1) := by decide +kernel
theorem d_J_cancelFrom_16 : decode c_J_cancelFrom 16 = .ok (.ifnull 10, 3) := by decide +kernel
theorem d_J_cancelFrom_19 : decode c_J_cancelFrom 19 = .ok (.aload_n 0, 1) := by decide +kernel
theorem d_J_cancelFrom_20 : decode c_J_cancelFrom 20 = .ok (.aload_n 3, 1) := by decide +kernel
theorem d_J_cancelFrom_21 : decode c_J_cancelFrom 21 = .ok (.iconst 0, 1) := by decide +kernel
theorem d_J_cancelFrom_22 : decode c_J_cancelFrom 22 = .ok (.iconst 0, 1) := by decide +kernel
theorem d_J_cancelFrom_23 : decode c_J_cancelFrom 23 = .ok (.invokevirtual 78, 3) := by decide +kernel
theorem d_J_cancelFrom_26 : decode c_J_cancelFrom 26 = .ok (.return_, 1) := by decide +kernel
theorem d_J_waitForNew_0 : decode c_J_waitForNew 0 = .ok (.aload_n 0, 1) := by decide +kernel
theorem d_J_waitForNew_1 : decode c_J_waitForNew 1 = .ok (.getfield 57, 3) := by decide +kernel
theorem d_J_waitForNew_4 : decode c_J_waitForNew 4 = .ok (.bipush 24, 2) := by decide +kernel
theorem d_J_waitForNew_6 : decode c_J_waitForNew 6 = .ok (.if_icmp .lt 6, 3) := by decide +kernel
theorem d_J_waitForNew_9 : decode c_J_waitForNew 9 = .ok (.bipush 96, 2) := by decide +kernel
theorem d_J_waitForNew_11 : decode c_J_waitForNew 11 = .ok (.ireturn, 1) := by decide +kernel
theorem d_J_waitForNew_12 : decode c_J_waitForNew 12 = .ok (.aload_n 0, 1) := by decide +kernel
theorem d_J_waitForNew_13 : decode c_J_waitForNew 13 = .ok (.aload_n 1, 1) := by decide +kernel
theorem d_J_waitForNew_14 : decode c_J_waitForNew 14 = .ok (.iload_n 3, 1) := by decide +kernel
theorem d_J_waitForNew_15 : decode c_J_waitForNew 15 = .ok (.aload 4, 2) := by decide +kernel
theorem d_J_waitForNew_17 : decode c_J_waitForNew 17 = .ok (.invokevirtual 60, 3) := by decide +kernel
theorem d_J_waitForNew_20 : decode c_J_waitForNew 20 = .ok (.astore 6, 2) := by decide +kernel
theorem d_J_waitForNew_22 : decode c_J_waitForNew 22 = .ok (.iload 5, 2) := by decide +kernel
theorem d_J_waitForNew_24 : decode c_J_waitForNew 24 = .ok (.ldc_w 273, 3) := by decide +kernel
theorem d_J_waitForNew_27 : decode c_J_waitForNew 27 = .ok (.if_icmp .eq 14, 3) := by decide +kernel
theorem d_J_waitForNew_30 : decode c_J_waitForNew 30 = .ok (.aload_n 0, 1) := by decide +kernel
theorem d_J_waitForNew_31 : decode c_J_waitForNew 31 = .ok (.aload 6, 2) := by decide +kernel
theorem d_J_waitForNew_33 : decode c_J_waitForNew 33 = .ok (.getfield 236, 3) := by decide +kernel
theorem d_J_waitForNew_36 : decode c_J_waitForNew 36 = .ok (.iload 5, 2) := by decide +kernel
theorem d_J_waitForNew_38 : decode c_J_waitForNew 38 = .ok (.invokevirtual 258, 3) := by decide +kernel
theorem d_J_waitForNew_41 : decode c_J_waitForNew 41 = .ok (.aload_n 1, 1) := by decide +kernel
theorem d_J_waitForNew_42 : decode c_J_waitForNew 42 = .ok (.iload_n 2, 1) := by decide +kernel
theorem d_J_waitForNew_43 : decode c_J_waitForNew 43 = .ok (.putfield 158, 3) := by decide +kernel
theorem d_J_waitForNew_46 : decode c_J_waitForNew 46 = .ok (.aload_n 1, 1) := by decide +kernel
theorem d_J_waitForNew_47 : decode c_J_waitForNew 47 = .ok (.aload 6, 2) := by decide +kernel
theorem d_J_waitForNew_49 : decode c_J_waitForNew 49 = .ok (.putfield 161, 3) := by decide +kernel
theorem d_J_waitForNew_52 : decode c_J_waitForNew 52 = .ok (.bipush (-2), 2) := by decide +kernel
theorem d_J_waitForNew_54 : decode c_J_waitForNew 54 = .ok (.ireturn, 1) := by decide +kernel
theorem d_J_enterFrame_0 : decode c_J_enterFrame 0 = .ok (.aload_n 0, 1) := by decide +kernel
theorem d_J_enterFrame_1 : decode c_J_enterFrame 1 = .ok (.getfield 106, 3) := by decide +kernel
theorem d_J_enterFrame_4 : decode c_J_enterFrame 4 = .ok (.bipush 6, 2) := by decide +kernel
theorem d_J_enterFrame_6 : decode c_J_enterFrame 6 = .ok (.if_icmp .lt 6, 3) := by decide +kernel
theorem d_J_enterFrame_9 : decode c_J_enterFrame 9 = .ok (.bipush 97, 2) := by decide +kernel
theorem d_J_enterFrame_11 : decode c_J_enterFrame 11 = .ok (.ireturn, 1) := by decide +kernel
theorem d_J_enterFrame_12 : decode c_J_enterFrame 12 = .ok (.aload_n 0, 1) := by decide +kernel
theorem d_J_enterFrame_13 : decode c_J_enterFrame 13 = .ok (.iload_n 1, 1) := by decide +kernel
theorem d_J_enterFrame_14 : decode c_J_enterFrame 14 = .ok (.aload_n 2, 1) := by decide +kernel
theorem d_J_enterFrame_15 : decode c_J_enterFrame 15 = .ok (.aload_n 3, 1) := by decide +kernel
theorem d_J_enterFrame_16 : decode c_J_enterFrame 16 = .ok (.iconst (-1), 1) := by decide +kernel
theorem d_J_enterFrame_17 : decode c_J_enterFrame 17 = .ok (.invokevirtual 208, 3) := by decide +kernel
theorem d_J_enterFrame_20 : decode c_J_enterFrame 20 = .ok (.iconst (-1), 1) := by decide +kernel
theorem d_J_enterFrame_21 : decode c_J_enterFrame 21 = .ok (.ireturn, 1) := by decide +kernel
theorem d_J_letTimePass_0 : decode c_J_letTimePass 0 = .ok (.aload_n 0, 1) := by decide +kernel
theorem d_J_letTimePass_1 : decode c_J_letTimePass 1 = .ok (.invokevirtual 291, 3) := by decide +kernel
theorem d_J_letTimePass_4 : decode c_J_letTimePass 4 = .ok (.istore_n 1, 1) := by decide +kernel
theorem d_J_letTimePass_5 : decode c_J_letTimePass 5 = .ok (.iload_n 1, 1) := by decide +kernel
theorem d_J_letTimePass_6 : decode c_J_letTimePass 6 = .ok (.ifCond .ge 5, 3) := by decide +kernel
theorem d_J_letTimePass_9 : decode c_J_letTimePass 9 = .ok (.iconst 0, 1) := by decide +kernel
theorem d_J_letTimePass_10 : decode c_J_letTimePass 10 = .ok (.ireturn, 1) := by decide +kernel
theorem d_J_letTimePass_11 : decode c_J_letTimePass 11 = .ok (.aload_n 0, 1) := by decide +kernel
theorem d_J_letTimePass_12 : decode c_J_letTimePass 12 = .ok (.aload_n 0, 1) := by decide +kernel
theorem d_J_letTimePass_13 : decode c_J_letTimePass 13 = .ok (.getfield 18, 3) := by decide +kernel
theorem d_J_letTimePass_16 : decode c_J_letTimePass 16 = .ok (.iload_n 1, 1) := by decide +kernel
theorem d_J_letTimePass_17 : decode c_J_letTimePass 17 = .ok (.aaload, 1) := by decide +kernel
theorem d_J_letTimePass_18 : decode c_J_letTimePass 18 = .ok (.invokevirtual 294, 3) := by decide +kernel
theorem d_J_letTimePass_21 : decode c_J_letTimePass 21 = .ok (.getfield 282, 3) := by decide +kernel
theorem d_J_letTimePass_24 : decode c_J_letTimePass 24 = .ok (.putfield 135, 3) := by decide +kernel
theorem d_J_letTimePass_27 : decode c_J_letTimePass 27 = .ok (.iconst 0, 1) := by decide +kernel
theorem d_J_letTimePass_28 : decode c_J_letTimePass 28 = .ok (.istore_n 2, 1) := by decide +kernel
theorem d_J_letTimePass_29 : decode c_J_letTimePass 29 = .ok (.iload_n 2, 1) := by decide +kernel
theorem d_J_letTimePass_30 : decode c_J_letTimePass 30 = .ok (.sipush 1000, 3) := by decide +kernel
theorem d_J_letTimePass_33 : decode c_J_letTimePass 33 = .ok (.if_icmp .ge 50, 3) := by decide +kernel
theorem d_J_letTimePass_36 : decode c_J_letTimePass 36 = .ok (.iload_n 1, 1) := by decide +kernel
theorem d_J_letTimePass_37 : decode c_J_letTimePass 37 = .ok (.ifCond .lt 46, 3) := by decide +kernel
theorem d_J_letTimePass_40 : decode c_J_letTimePass 40 = .ok (.aload_n 0, 1) := by decide +kernel
theorem d_J_letTimePass_41 : decode c_J_letTimePass 41 = .ok (.getfield 18, 3) := by decide +kernel
theorem d_J_letTimePass_44 : decode c_J_letTimePass 44 = .ok (.iload_n 1, 1) := by decide +kernel
theorem d_J_letTimePass_45 : decode c_J_letTimePass 45 = .ok (.aaload, 1) := by decide +kernel
theorem d_J_letTimePass_46 : decode c_J_letTimePass 46 = .ok (.invokevirtual 294, 3) := by decide +kernel
theorem d_J_letTimePass_49 : decode c_J_letTimePass 49 = .ok (.getfield 282, 3) := by decide +kernel
theorem d_J_letTimePass_52 : decode c_J_letTimePass 52 = .ok (.aload_n 0, 1) := by decide +kernel
theorem d_J_letTimePass_53 : decode c_J_letTimePass 53 = .ok (.getfield 135, 3) := by decide +kernel
theorem d_J_letTimePass_56 : decode c_J_letTimePass 56 = .ok (.if_icmp .eq 6, 3) := by decide +kernel
theorem d_J_letTimePass_59 : decode c_J_letTimePass 59 = .ok (.goto 24, 3) := by decide +kernel
theorem d_J_letTimePass_62 : decode c_J_letTimePass 62 = .ok (.aload_n 0, 1) := by decide +kernel
theorem d_J_letTimePass_63 : decode c_J_letTimePass 63 = .ok (.aload_n 0, 1) := by decide +kernel
theorem d_J_letTimePass_64 : decode c_J_letTimePass 64 = .ok (.getfield 18, 3) := by decide +kernel
theorem d_J_letTimePass_67 : decode c_J_letTimePass 67 = .ok (.iload_n 1, 1) := by decide +kernel
theorem d_J_letTimePass_68 : decode c_J_letTimePass 68 = .ok (.aaload, 1) := by decide +kernel
theorem d_J_letTimePass_69 : decode c_J_letTimePass 69 = .ok (.invokevirtual 298, 3) := by decide +kernel
theorem d_J_letTimePass_72 : decode c_J_letTimePass 72 = .ok (.aload_n 0, 1) := by decide +kernel
theorem d_J_letTimePass_73 : decode c_J_letTimePass 73 = .ok (.invokevirtual 291, 3) := by decide +kernel
theorem d_J_letTimePass_76 : decode c_J_letTimePass 76 = .ok (.istore_n 1, 1) := by decide +kernel
theorem d_J_letTimePass_77 : decode c_J_letTimePass 77 = .ok (.iinc 2 1, 3) := by decide +kernel
theorem d_J_letTimePass_80 : decode c_J_letTimePass 80 = .ok (.goto (-51), 3) := by decide +kernel
theorem d_J_letTimePass_83 : decode c_J_letTimePass 83 = .ok (.iconst 1, 1) := by decide +kernel
theorem d_J_letTimePass_84 : decode c_J_letTimePass 84 = .ok (.ireturn, 1) := by decide +kernel
theorem d_J_nextDueJob_0 : decode c_J_nextDueJob 0 = .ok (.iconst (-1), 1) := by decide +kernel
theorem d_J_nextDueJob_1 : decode c_J_nextDueJob 1 = .ok (.istore_n 1, 1) := by decide +kernel
theorem d_J_nextDueJob_2 : decode c_J_nextDueJob 2 = .ok (.iconst 0, 1) := by decide +kernel
theorem d_J_nextDueJob_3 : decode c_J_nextDueJob 3 = .ok (.istore_n 2, 1) := by decide +kernel
theorem d_J_nextDueJob_4 : decode c_J_nextDueJob 4 = .ok (.iload_n 2, 1) := by decide +kernel
theorem d_J_nextDueJob_5 : decode c_J_nextDueJob 5 = .ok (.aload_n 0, 1) := by decide +kernel
theorem d_J_nextDueJob_6 : decode c_J_nextDueJob 6 = .ok (.getfield 57, 3) := by decide +kernel
theorem d_J_nextDueJob_9 : decode c_J_nextDueJob 9 = .ok (.if_icmp .ge 48, 3) := by decide +kernel
theorem d_J_nextDueJob_12 : decode c_J_nextDueJob 12 = .ok (.aload_n 0, 1) := by decide +kernel
theorem d_J_nextDueJob_13 : decode c_J_nextDueJob 13 = .ok (.getfield 18, 3) := by decide +kernel
theorem d_J_nextDueJob_16 : decode c_J_nextDueJob 16 = .ok (.iload_n 2, 1) := by decide +kernel
theorem d_J_nextDueJob_17 : decode c_J_nextDueJob 17 = .ok (.aaload, 1) := by decide +kernel
theorem d_J_nextDueJob_18 : decode c_J_nextDueJob 18 = .ok (.invokevirtual 294, 3) := by decide +kernel
theorem d_J_nextDueJob_21 : decode c_J_nextDueJob 21 = .ok (.astore_n 3, 1) := by decide +kernel
theorem d_J_nextDueJob_22 : decode c_J_nextDueJob 22 = .ok (.aload_n 3, 1) := by decide +kernel
theorem d_J_nextDueJob_23 : decode c_J_nextDueJob 23 = .ok (.invokevirtual 301, 3) := by decide +kernel
theorem d_J_nextDueJob_26 : decode c_J_nextDueJob 26 = .ok (.ifCond .eq 25, 3) := by decide +kernel
theorem d_J_nextDueJob_29 : decode c_J_nextDueJob 29 = .ok (.iload_n 1, 1) := by decide +kernel
theorem d_J_nextDueJob_30 : decode c_J_nextDueJob 30 = .ok (.ifCond .lt 19, 3) := by decide +kernel
theorem d_J_nextDueJob_33 : decode c_J_nextDueJob 33 = .ok (.aload_n 3, 1) := by decide +kernel
theorem d_J_nextDueJob_34 : decode c_J_nextDueJob 34 = .ok (.aload_n 0, 1) := by decide +kernel
theorem d_J_nextDueJob_35 : decode c_J_nextDueJob 35 = .ok (.getfield 18, 3) := by decide +kernel
theorem d_J_nextDueJob_38 : decode c_J_nextDueJob 38 = .ok (.iload_n 1, 1) := by decide +kernel
theorem d_J_nextDueJob_39 : decode c_J_nextDueJob 39 = .ok (.aaload, 1) := by decide +kernel
theorem d_J_nextDueJob_40 : decode c_J_nextDueJob 40 = .ok (.invokevirtual 294, 3) := by decide +kernel
theorem d_J_nextDueJob_43 : decode c_J_nextDueJob 43 = .ok (.invokevirtual 304, 3) := by decide +kernel
theorem d_J_nextDueJob_46 : decode c_J_nextDueJob 46 = .ok (.ifCond .eq 5, 3) := by decide +kernel
theorem d_J_nextDueJob_49 : decode c_J_nextDueJob 49 = .ok (.iload_n 2, 1) := by decide +kernel
theorem d_J_nextDueJob_50 : decode c_J_nextDueJob 50 = .ok (.istore_n 1, 1) := by decide +kernel
theorem d_J_nextDueJob_51 : decode c_J_nextDueJob 51 = .ok (.iinc 2 1, 3) := by decide +kernel
theorem d_J_nextDueJob_54 : decode c_J_nextDueJob 54 = .ok (.goto (-50), 3) := by decide +kernel
theorem d_J_nextDueJob_57 : decode c_J_nextDueJob 57 = .ok (.iload_n 1, 1) := by decide +kernel
theorem d_J_nextDueJob_58 : decode c_J_nextDueJob 58 = .ok (.ireturn, 1) := by decide +kernel
theorem d_B_nextTimer_0 : decode c_B_nextTimer 0 = .ok (.aload_n 0, 1) := by decide +kernel
theorem d_B_nextTimer_1 : decode c_B_nextTimer 1 = .ok (.getfield 42, 3) := by decide +kernel
theorem d_B_nextTimer_4 : decode c_B_nextTimer 4 = .ok (.aload_n 0, 1) := by decide +kernel
theorem d_B_nextTimer_5 : decode c_B_nextTimer 5 = .ok (.getfield 38, 3) := by decide +kernel
theorem d_B_nextTimer_8 : decode c_B_nextTimer 8 = .ok (.invokevirtual 84, 3) := by decide +kernel
theorem d_B_nextTimer_11 : decode c_B_nextTimer 11 = .ok (.ifCond .eq 10, 3) := by decide +kernel
theorem d_B_nextTimer_14 : decode c_B_nextTimer 14 = .ok (.aload_n 0, 1) := by decide +kernel
theorem d_B_nextTimer_15 : decode c_B_nextTimer 15 = .ok (.getfield 42, 3) := by decide +kernel
theorem d_B_nextTimer_18 : decode c_B_nextTimer 18 = .ok (.goto 7, 3) := by decide +kernel
theorem d_B_nextTimer_21 : decode c_B_nextTimer 21 = .ok (.aload_n 0, 1) := by decide +kernel
theorem d_B_nextTimer_22 : decode c_B_nextTimer 22 = .ok (.getfield 38, 3) := by decide +kernel
theorem d_B_nextTimer_25 : decode c_B_nextTimer 25 = .ok (.areturn, 1) := by decide +kernel
theorem d_T_comesBefore_0 : decode c_T_comesBefore 0 = .ok (.aload_n 0, 1) := by decide +kernel
theorem d_T_comesBefore_1 : decode c_T_comesBefore 1 = .ok (.getfield 10, 3) := by decide +kernel
theorem d_T_comesBefore_4 : decode c_T_comesBefore 4 = .ok (.aload_n 1, 1) := by decide +kernel
theorem d_T_comesBefore_5 : decode c_T_comesBefore 5 = .ok (.getfield 10, 3) := by decide +kernel
theorem d_T_comesBefore_8 : decode c_T_comesBefore 8 = .ok (.if_icmp .lt 25, 3) := by decide +kernel
theorem d_T_comesBefore_11 : decode c_T_comesBefore 11 = .ok (.aload_n 0, 1) := by decide +kernel
theorem d_T_comesBefore_12 : decode c_T_comesBefore 12 = .ok (.getfield 10, 3) := by decide +kernel
theorem d_T_comesBefore_15 : decode c_T_comesBefore 15 = .ok (.aload_n 1, 1) := by decide +kernel
theorem d_T_comesBefore_16 : decode c_T_comesBefore 16 = .ok (.getfield 10, 3) := by decide +kernel
theorem d_T_comesBefore_19 : decode c_T_comesBefore 19 = .ok (.if_icmp .ne 18, 3) := by decide +kernel
theorem d_T_comesBefore_22 : decode c_T_comesBefore 22 = .ok (.aload_n 0, 1) := by decide +kernel
theorem d_T_comesBefore_23 : decode c_T_comesBefore 23 = .ok (.getfield 16, 3) := by decide +kernel
theorem d_T_comesBefore_26 : decode c_T_comesBefore 26 = .ok (.aload_n 1, 1) := by decide +kernel
theorem d_T_comesBefore_27 : decode c_T_comesBefore 27 = .ok (.getfield 16, 3) := by decide +kernel
theorem d_T_comesBefore_30 : decode c_T_comesBefore 30 = .ok (.if_icmp .ge 7, 3) := by decide +kernel
theorem d_T_comesBefore_33 : decode c_T_comesBefore 33 = .ok (.iconst 1, 1) := by decide +kernel
theorem d_T_comesBefore_34 : decode c_T_comesBefore 34 = .ok (.goto 4, 3) := by decide +kernel
theorem d_T_comesBefore_37 : decode c_T_comesBefore 37 = .ok (.iconst 0, 1) := by decide +kernel
theorem d_T_comesBefore_38 : decode c_T_comesBefore 38 = .ok (.ireturn, 1) := by decide +kernel
theorem d_J_comeDue_0 : decode c_J_comeDue 0 = .ok (.aload_n 1, 1) := by decide +kernel
theorem d_J_comeDue_1 : decode c_J_comeDue 1 = .ok (.invokevirtual 294, 3) := by decide +kernel
theorem d_J_comeDue_4 : decode c_J_comeDue 4 = .ok (.aload_n 1, 1) := by decide +kernel
theorem d_J_comeDue_5 : decode c_J_comeDue 5 = .ok (.getfield 164, 3) := by decide +kernel
theorem d_J_comeDue_8 : decode c_J_comeDue 8 = .ok (.if_acmp .ne 10, 3) := by decide +kernel
theorem d_J_comeDue_11 : decode c_J_comeDue 11 = .ok (.aload_n 0, 1) := by decide +kernel
theorem d_J_comeDue_12 : decode c_J_comeDue 12 = .ok (.aload_n 1, 1) := by decide +kernel
theorem d_J_comeDue_13 : decode c_J_comeDue 13 = .ok (.iconst (-1), 1) := by decide +kernel
theorem d_J_comeDue_14 : decode c_J_comeDue 14 = .ok (.invokevirtual 154, 3) := by decide +kernel
theorem d_J_comeDue_17 : decode c_J_comeDue 17 = .ok (.return_, 1) := by decide +kernel
theorem d_J_comeDue_18 : decode c_J_comeDue 18 = .ok (.aload_n 1, 1) := by decide +kernel
theorem d_J_comeDue_19 : decode c_J_comeDue 19 = .ok (.getfield 236, 3) := by decide +kernel
theorem d_J_comeDue_22 : decode c_J_comeDue 22 = .ok (.invokevirtual 168, 3) := by decide +kernel
theorem d_J_comeDue_25 : decode c_J_comeDue 25 = .ok (.aload_n 1, 1) := by decide +kernel
theorem d_J_comeDue_26 : decode c_J_comeDue 26 = .ok (.getfield 75, 3) := by decide +kernel
theorem d_J_comeDue_29 : decode c_J_comeDue 29 = .ok (.iconst (-1), 1) := by decide +kernel
theorem d_J_comeDue_30 : decode c_J_comeDue 30 = .ok (.if_icmp .ne 11, 3) := by decide +kernel
theorem d_J_comeDue_33 : decode c_J_comeDue 33 = .ok (.aload_n 0, 1) := by decide +kernel
theorem d_J_comeDue_34 : decode c_J_comeDue 34 = .ok (.aload_n 1, 1) := by decide +kernel
theorem d_J_comeDue_35 : decode c_J_comeDue 35 = .ok (.bipush 98, 2) := by decide +kernel
theorem d_J_comeDue_37 : decode c_J_comeDue 37 = .ok (.iconst 0, 1) := by decide +kernel
theorem d_J_comeDue_38 : decode c_J_comeDue 38 = .ok (.invokevirtual 78, 3) := by decide +kernel
theorem d_J_comeDue_41 : decode c_J_comeDue 41 = .ok (.return_, 1) := by decide +kernel
theorem d_L_result_0 : decode c_L_result 0 = .ok (.aload_n 2, 1) := by decide +kernel
theorem d_L_result_1 : decode c_L_result 1 = .ok (.iconst 0, 1) := by decide +kernel
theorem d_L_result_2 : decode c_L_result 2 = .ok (.aload_n 0, 1) := by decide +kernel
theorem d_L_result_3 : decode c_L_result 3 = .ok (.iload_n 1, 1) := by decide +kernel
theorem d_L_result_4 : decode c_L_result 4 = .ok (.invokevirtual 27, 3) := by decide +kernel
theorem d_L_result_7 : decode c_L_result 7 = .ok (.i2l, 1) := by decide +kernel
theorem d_L_result_8 : decode c_L_result 8 = .ok (.lastore, 1) := by decide +kernel
theorem d_L_result_9 : decode c_L_result 9 = .ok (.goto 15, 3) := by decide +kernel
theorem d_L_result_12 : decode c_L_result 12 = .ok (.astore_n 3, 1) := by decide +kernel
theorem d_L_result_13 : decode c_L_result 13 = .ok (.iconst 1, 1) := by decide +kernel
theorem d_L_result_14 : decode c_L_result 14 = .ok (.ireturn, 1) := by decide +kernel
theorem d_L_result_15 : decode c_L_result 15 = .ok (.astore_n 3, 1) := by decide +kernel
theorem d_L_result_16 : decode c_L_result 16 = .ok (.iconst 2, 1) := by decide +kernel
theorem d_L_result_17 : decode c_L_result 17 = .ok (.ireturn, 1) := by decide +kernel
theorem d_L_result_18 : decode c_L_result 18 = .ok (.astore_n 3, 1) := by decide +kernel
theorem d_L_result_19 : decode c_L_result 19 = .ok (.iconst 3, 1) := by decide +kernel
theorem d_L_result_20 : decode c_L_result 20 = .ok (.ireturn, 1) := by decide +kernel
theorem d_L_result_21 : decode c_L_result 21 = .ok (.astore_n 3, 1) := by decide +kernel
theorem d_L_result_22 : decode c_L_result 22 = .ok (.iconst 4, 1) := by decide +kernel
theorem d_L_result_23 : decode c_L_result 23 = .ok (.ireturn, 1) := by decide +kernel
theorem d_L_result_24 : decode c_L_result 24 = .ok (.iconst 0, 1) := by decide +kernel
theorem d_L_result_25 : decode c_L_result 25 = .ok (.ireturn, 1) := by decide +kernel
theorem d_J_result_0 : decode c_J_result 0 = .ok (.aload_n 0, 1) := by decide +kernel
theorem d_J_result_1 : decode c_J_result 1 = .ok (.iload_n 1, 1) := by decide +kernel
theorem d_J_result_2 : decode c_J_result 2 = .ok (.invokevirtual 67, 3) := by decide +kernel
theorem d_J_result_5 : decode c_J_result 5 = .ok (.astore_n 2, 1) := by decide +kernel
theorem d_J_result_6 : decode c_J_result 6 = .ok (.aload_n 2, 1) := by decide +kernel
theorem d_J_result_7 : decode c_J_result 7 = .ok (.getfield 71, 3) := by decide +kernel
theorem d_J_result_10 : decode c_J_result 10 = .ok (.ifCond .ne 11, 3) := by decide +kernel
theorem d_J_result_13 : decode c_J_result 13 = .ok (.new 50, 3) := by decide +kernel
theorem d_J_result_16 : decode c_J_result 16 = .ok (.dup, 1) := by decide +kernel
theorem d_J_result_17 : decode c_J_result 17 = .ok (.invokespecial 52, 3) := by decide +kernel
theorem d_J_result_20 : decode c_J_result 20 = .ok (.athrow, 1) := by decide +kernel
theorem d_J_result_21 : decode c_J_result 21 = .ok (.aload_n 2, 1) := by decide +kernel
theorem d_J_result_22 : decode c_J_result 22 = .ok (.getfield 75, 3) := by decide +kernel
theorem d_J_result_25 : decode c_J_result 25 = .ok (.ifCond .le 11, 3) := by decide +kernel
theorem d_J_result_28 : decode c_J_result 28 = .ok (.new 97, 3) := by decide +kernel
theorem d_J_result_31 : decode c_J_result 31 = .ok (.dup, 1) := by decide +kernel
theorem d_J_result_32 : decode c_J_result 32 = .ok (.invokespecial 99, 3) := by decide +kernel
theorem d_J_result_35 : decode c_J_result 35 = .ok (.athrow, 1) := by decide +kernel
theorem d_J_result_36 : decode c_J_result 36 = .ok (.aload_n 2, 1) := by decide +kernel
theorem d_J_result_37 : decode c_J_result 37 = .ok (.getfield 75, 3) := by decide +kernel
theorem d_J_result_40 : decode c_J_result 40 = .ok (.ifCond .ne 11, 3) := by decide +kernel
theorem d_J_result_43 : decode c_J_result 43 = .ok (.new 100, 3) := by decide +kernel
theorem d_J_result_46 : decode c_J_result 46 = .ok (.dup, 1) := by decide +kernel
theorem d_J_result_47 : decode c_J_result 47 = .ok (.invokespecial 102, 3) := by decide +kernel
theorem d_J_result_50 : decode c_J_result 50 = .ok (.athrow, 1) := by decide +kernel
theorem d_J_result_51 : decode c_J_result 51 = .ok (.aload_n 2, 1) := by decide +kernel
theorem d_J_result_52 : decode c_J_result 52 = .ok (.getfield 103, 3) := by decide +kernel
theorem d_J_result_55 : decode c_J_result 55 = .ok (.ireturn, 1) := by decide +kernel
theorem d_L_state_0 : decode c_L_state 0 = .ok (.aload_n 2, 1) := by decide +kernel
theorem d_L_state_1 : decode c_L_state 1 = .ok (.iconst 0, 1) := by decide +kernel
theorem d_L_state_2 : decode c_L_state 2 = .ok (.aload_n 0, 1) := by decide +kernel
theorem d_L_state_3 : decode c_L_state 3 = .ok (.iload_n 1, 1) := by decide +kernel
theorem d_L_state_4 : decode c_L_state 4 = .ok (.invokevirtual 34, 3) := by decide +kernel
theorem d_L_state_7 : decode c_L_state 7 = .ok (.i2l, 1) := by decide +kernel
theorem d_L_state_8 : decode c_L_state 8 = .ok (.lastore, 1) := by decide +kernel
theorem d_L_state_9 : decode c_L_state 9 = .ok (.goto 6, 3) := by decide +kernel
theorem d_L_state_12 : decode c_L_state 12 = .ok (.astore_n 3, 1) := by decide +kernel
theorem d_L_state_13 : decode c_L_state 13 = .ok (.iconst 1, 1) := by decide +kernel
theorem d_L_state_14 : decode c_L_state 14 = .ok (.ireturn, 1) := by decide +kernel
theorem d_L_state_15 : decode c_L_state 15 = .ok (.iconst 0, 1) := by decide +kernel
theorem d_L_state_16 : decode c_L_state 16 = .ok (.ireturn, 1) := by decide +kernel
theorem d_J_state_0 : decode c_J_state 0 = .ok (.aload_n 0, 1) := by decide +kernel
theorem d_J_state_1 : decode c_J_state 1 = .ok (.iload_n 1, 1) := by decide +kernel
theorem d_J_state_2 : decode c_J_state 2 = .ok (.invokevirtual 67, 3) := by decide +kernel
theorem d_J_state_5 : decode c_J_state 5 = .ok (.astore_n 2, 1) := by decide +kernel
theorem d_J_state_6 : decode c_J_state 6 = .ok (.aload_n 2, 1) := by decide +kernel
theorem d_J_state_7 : decode c_J_state 7 = .ok (.getfield 106, 3) := by decide +kernel
theorem d_J_state_10 : decode c_J_state 10 = .ok (.ifCond .ne 8, 3) := by decide +kernel
theorem d_J_state_13 : decode c_J_state 13 = .ok (.bipush 8, 2) := by decide +kernel
theorem d_J_state_15 : decode c_J_state 15 = .ok (.goto 4, 3) := by decide +kernel
theorem d_J_state_18 : decode c_J_state 18 = .ok (.iconst 0, 1) := by decide +kernel
theorem d_J_state_19 : decode c_J_state 19 = .ok (.istore_n 3, 1) := by decide +kernel
theorem d_J_state_20 : decode c_J_state 20 = .ok (.aload_n 2, 1) := by decide +kernel
theorem d_J_state_21 : decode c_J_state 21 = .ok (.getfield 71, 3) := by decide +kernel
theorem d_J_state_24 : decode c_J_state 24 = .ok (.ifCond .ne 19, 3) := by decide +kernel
theorem d_J_state_27 : decode c_J_state 27 = .ok (.iload_n 3, 1) := by decide +kernel
theorem d_J_state_28 : decode c_J_state 28 = .ok (.aload_n 2, 1) := by decide +kernel
theorem d_J_state_29 : decode c_J_state 29 = .ok (.getfield 75, 3) := by decide +kernel
theorem d_J_state_32 : decode c_J_state 32 = .ok (.iconst (-1), 1) := by decide +kernel
theorem d_J_state_33 : decode c_J_state 33 = .ok (.if_icmp .ne 7, 3) := by decide +kernel
theorem d_J_state_36 : decode c_J_state 36 = .ok (.iconst 4, 1) := by decide +kernel
theorem d_J_state_37 : decode c_J_state 37 = .ok (.goto 4, 3) := by decide +kernel
theorem d_J_state_40 : decode c_J_state 40 = .ok (.iconst 5, 1) := by decide +kernel
theorem d_J_state_41 : decode c_J_state 41 = .ok (.iadd, 1) := by decide +kernel
theorem d_J_state_42 : decode c_J_state 42 = .ok (.ireturn, 1) := by decide +kernel
theorem d_J_state_43 : decode c_J_state 43 = .ok (.aload_n 2, 1) := by decide +kernel
theorem d_J_state_44 : decode c_J_state 44 = .ok (.getfield 75, 3) := by decide +kernel
theorem d_J_state_47 : decode c_J_state 47 = .ok (.iconst (-1), 1) := by decide +kernel
theorem d_J_state_48 : decode c_J_state 48 = .ok (.if_icmp .ne 5, 3) := by decide +kernel
theorem d_J_state_51 : decode c_J_state 51 = .ok (.iload_n 3, 1) := by decide +kernel
theorem d_J_state_52 : decode c_J_state 52 = .ok (.ireturn, 1) := by decide +kernel
theorem d_J_state_53 : decode c_J_state 53 = .ok (.iload_n 3, 1) := by decide +kernel
theorem d_J_state_54 : decode c_J_state 54 = .ok (.aload_n 2, 1) := by decide +kernel
theorem d_J_state_55 : decode c_J_state 55 = .ok (.getfield 75, 3) := by decide +kernel
theorem d_J_state_58 : decode c_J_state 58 = .ok (.ifCond .ne 7, 3) := by decide +kernel
theorem d_J_state_61 : decode c_J_state 61 = .ok (.iconst 1, 1) := by decide +kernel
theorem d_J_state_62 : decode c_J_state 62 = .ok (.goto 4, 3) := by decide +kernel
theorem d_J_state_65 : decode c_J_state 65 = .ok (.iconst 2, 1) := by decide +kernel
theorem d_J_state_66 : decode c_J_state 66 = .ok (.iadd, 1) := by decide +kernel
theorem d_J_state_67 : decode c_J_state 67 = .ok (.ireturn, 1) := by decide +kernel
theorem d_L_cause_0 : decode c_L_cause 0 = .ok (.aload_n 2, 1) := by decide +kernel
theorem d_L_cause_1 : decode c_L_cause 1 = .ok (.iconst 0, 1) := by decide +kernel
theorem d_L_cause_2 : decode c_L_cause 2 = .ok (.aload_n 0, 1) := by decide +kernel
theorem d_L_cause_3 : decode c_L_cause 3 = .ok (.iload_n 1, 1) := by decide +kernel
theorem d_L_cause_4 : decode c_L_cause 4 = .ok (.invokevirtual 37, 3) := by decide +kernel
theorem d_L_cause_7 : decode c_L_cause 7 = .ok (.i2l, 1) := by decide +kernel
theorem d_L_cause_8 : decode c_L_cause 8 = .ok (.lastore, 1) := by decide +kernel
theorem d_L_cause_9 : decode c_L_cause 9 = .ok (.goto 9, 3) := by decide +kernel
theorem d_L_cause_12 : decode c_L_cause 12 = .ok (.astore_n 3, 1) := by decide +kernel
theorem d_L_cause_13 : decode c_L_cause 13 = .ok (.iconst 1, 1) := by decide +kernel
theorem d_L_cause_14 : decode c_L_cause 14 = .ok (.ireturn, 1) := by decide +kernel
theorem d_L_cause_15 : decode c_L_cause 15 = .ok (.astore_n 3, 1) := by decide +kernel
theorem d_L_cause_16 : decode c_L_cause 16 = .ok (.iconst 2, 1) := by decide +kernel
theorem d_L_cause_17 : decode c_L_cause 17 = .ok (.ireturn, 1) := by decide +kernel
theorem d_L_cause_18 : decode c_L_cause 18 = .ok (.iconst 0, 1) := by decide +kernel
theorem d_L_cause_19 : decode c_L_cause 19 = .ok (.ireturn, 1) := by decide +kernel
theorem d_J_cause_0 : decode c_J_cause 0 = .ok (.aload_n 0, 1) := by decide +kernel
theorem d_J_cause_1 : decode c_J_cause 1 = .ok (.iload_n 1, 1) := by decide +kernel
theorem d_J_cause_2 : decode c_J_cause 2 = .ok (.invokevirtual 67, 3) := by decide +kernel
theorem d_J_cause_5 : decode c_J_cause 5 = .ok (.astore_n 2, 1) := by decide +kernel
theorem d_J_cause_6 : decode c_J_cause 6 = .ok (.aload_n 2, 1) := by decide +kernel
theorem d_J_cause_7 : decode c_J_cause 7 = .ok (.getfield 75, 3) := by decide +kernel
theorem d_J_cause_10 : decode c_J_cause 10 = .ok (.iconst (-1), 1) := by decide +kernel
theorem d_J_cause_11 : decode c_J_cause 11 = .ok (.if_icmp .ne 11, 3) := by decide +kernel
theorem d_J_cause_14 : decode c_J_cause 14 = .ok (.new 100, 3) := by decide +kernel
theorem d_J_cause_17 : decode c_J_cause 17 = .ok (.dup, 1) := by decide +kernel
theorem d_J_cause_18 : decode c_J_cause 18 = .ok (.invokespecial 102, 3) := by decide +kernel
theorem d_J_cause_21 : decode c_J_cause 21 = .ok (.athrow, 1) := by decide +kernel
theorem d_J_cause_22 : decode c_J_cause 22 = .ok (.aload_n 2, 1) := by decide +kernel
theorem d_J_cause_23 : decode c_J_cause 23 = .ok (.getfield 75, 3) := by decide +kernel
theorem d_J_cause_26 : decode c_J_cause 26 = .ok (.ireturn, 1) := by decide +kernel
theorem d_L_about_0 : decode c_L_about 0 = .ok (.aload_n 3, 1) := by decide +kernel
theorem d_L_about_1 : decode c_L_about 1 = .ok (.iconst 0, 1) := by decide +kernel
theorem d_L_about_2 : decode c_L_about 2 = .ok (.aload_n 0, 1) := by decide +kernel
theorem d_L_about_3 : decode c_L_about 3 = .ok (.iload_n 1, 1) := by decide +kernel
theorem d_L_about_4 : decode c_L_about 4 = .ok (.iload_n 2, 1) := by decide +kernel
theorem d_L_about_5 : decode c_L_about 5 = .ok (.invokevirtual 40, 3) := by decide +kernel
theorem d_L_about_8 : decode c_L_about 8 = .ok (.i2l, 1) := by decide +kernel
theorem d_L_about_9 : decode c_L_about 9 = .ok (.lastore, 1) := by decide +kernel
theorem d_L_about_10 : decode c_L_about 10 = .ok (.goto 7, 3) := by decide +kernel
theorem d_L_about_13 : decode c_L_about 13 = .ok (.astore 4, 2) := by decide +kernel
theorem d_L_about_15 : decode c_L_about 15 = .ok (.iconst 1, 1) := by decide +kernel
theorem d_L_about_16 : decode c_L_about 16 = .ok (.ireturn, 1) := by decide +kernel
theorem d_L_about_17 : decode c_L_about 17 = .ok (.iconst 0, 1) := by decide +kernel
theorem d_L_about_18 : decode c_L_about 18 = .ok (.ireturn, 1) := by decide +kernel
theorem d_J_about_0 : decode c_J_about 0 = .ok (.aload_n 0, 1) := by decide +kernel
theorem d_J_about_1 : decode c_J_about 1 = .ok (.iload_n 1, 1) := by decide +kernel
theorem d_J_about_2 : decode c_J_about 2 = .ok (.invokevirtual 67, 3) := by decide +kernel
theorem d_J_about_5 : decode c_J_about 5 = .ok (.astore_n 3, 1) := by decide +kernel
theorem d_J_about_6 : decode c_J_about 6 = .ok (.iload_n 2, 1) := by decide +kernel
theorem d_J_about_7 : decode c_J_about 7 = .ok (.tableswitch 94 0 8 #[49, 57, 62, 67, 72, 77, 77, 77, 89], 49) := by decide +kernel
theorem d_J_about_56 : decode c_J_about 56 = .ok (.aload_n 3, 1) := by decide +kernel
theorem d_J_about_57 : decode c_J_about 57 = .ok (.getfield 109, 3) := by decide +kernel
theorem d_J_about_60 : decode c_J_about 60 = .ok (.invokestatic 113, 3) := by decide +kernel
theorem d_J_about_63 : decode c_J_about 63 = .ok (.ireturn, 1) := by decide +kernel
theorem d_J_about_64 : decode c_J_about 64 = .ok (.aload_n 3, 1) := by decide +kernel
theorem d_J_about_65 : decode c_J_about 65 = .ok (.getfield 117, 3) := by decide +kernel
theorem d_J_about_68 : decode c_J_about 68 = .ok (.ireturn, 1) := by decide +kernel
theorem d_J_about_69 : decode c_J_about 69 = .ok (.aload_n 3, 1) := by decide +kernel
theorem d_J_about_70 : decode c_J_about 70 = .ok (.getfield 120, 3) := by decide +kernel
theorem d_J_about_73 : decode c_J_about 73 = .ok (.ireturn, 1) := by decide +kernel
theorem d_J_about_74 : decode c_J_about 74 = .ok (.aload_n 3, 1) := by decide +kernel
theorem d_J_about_75 : decode c_J_about 75 = .ok (.getfield 103, 3) := by decide +kernel
theorem d_J_about_78 : decode c_J_about 78 = .ok (.ireturn, 1) := by decide +kernel
theorem d_J_about_79 : decode c_J_about 79 = .ok (.aload_n 3, 1) := by decide +kernel
theorem d_J_about_80 : decode c_J_about 80 = .ok (.getfield 106, 3) := by decide +kernel
theorem d_J_about_83 : decode c_J_about 83 = .ok (.ireturn, 1) := by decide +kernel
theorem d_J_about_84 : decode c_J_about 84 = .ok (.aload_n 3, 1) := by decide +kernel
theorem d_J_about_85 : decode c_J_about 85 = .ok (.getfield 123, 3) := by decide +kernel
theorem d_J_about_88 : decode c_J_about 88 = .ok (.iload_n 2, 1) := by decide +kernel
theorem d_J_about_89 : decode c_J_about 89 = .ok (.iconst 5, 1) := by decide +kernel
theorem d_J_about_90 : decode c_J_about 90 = .ok (.isub, 1) := by decide +kernel
theorem d_J_about_91 : decode c_J_about 91 = .ok (.aaload, 1) := by decide +kernel
theorem d_J_about_92 : decode c_J_about 92 = .ok (.invokestatic 113, 3) := by decide +kernel
theorem d_J_about_95 : decode c_J_about 95 = .ok (.ireturn, 1) := by decide +kernel
theorem d_J_about_96 : decode c_J_about 96 = .ok (.aload_n 3, 1) := by decide +kernel
theorem d_J_about_97 : decode c_J_about 97 = .ok (.getfield 126, 3) := by decide +kernel
theorem d_J_about_100 : decode c_J_about 100 = .ok (.ireturn, 1) := by decide +kernel
theorem d_J_about_101 : decode c_J_about 101 = .ok (.new 43, 3) := by decide +kernel
theorem d_J_about_104 : decode c_J_about 104 = .ok (.dup, 1) := by decide +kernel
theorem d_J_about_105 : decode c_J_about 105 = .ok (.invokespecial 45, 3) := by decide +kernel
theorem d_J_about_108 : decode c_J_about 108 = .ok (.athrow, 1) := by decide +kernel
theorem d_J_numberOf_0 : decode c_J_numberOf 0 = .ok (.aload_n 0, 1) := by decide +kernel
theorem d_J_numberOf_1 : decode c_J_numberOf 1 = .ok (.ifnonnull 7, 3) := by decide +kernel
theorem d_J_numberOf_4 : decode c_J_numberOf 4 = .ok (.iconst (-1), 1) := by decide +kernel
theorem d_J_numberOf_5 : decode c_J_numberOf 5 = .ok (.goto 7, 3) := by decide +kernel
theorem d_J_numberOf_8 : decode c_J_numberOf 8 = .ok (.aload_n 0, 1) := by decide +kernel
theorem d_J_numberOf_9 : decode c_J_numberOf 9 = .ok (.getfield 64, 3) := by decide +kernel
theorem d_J_numberOf_12 : decode c_J_numberOf 12 = .ok (.ireturn, 1) := by decide +kernel
theorem d_L_noted_0 : decode c_L_noted 0 = .ok (.aload_n 2, 1) := by decide +kernel
theorem d_L_noted_1 : decode c_L_noted 1 = .ok (.iconst 0, 1) := by decide +kernel
theorem d_L_noted_2 : decode c_L_noted 2 = .ok (.aload_n 0, 1) := by decide +kernel
theorem d_L_noted_3 : decode c_L_noted 3 = .ok (.iload_n 1, 1) := by decide +kernel
theorem d_L_noted_4 : decode c_L_noted 4 = .ok (.invokevirtual 44, 3) := by decide +kernel
theorem d_L_noted_7 : decode c_L_noted 7 = .ok (.i2l, 1) := by decide +kernel
theorem d_L_noted_8 : decode c_L_noted 8 = .ok (.lastore, 1) := by decide +kernel
theorem d_L_noted_9 : decode c_L_noted 9 = .ok (.goto 6, 3) := by decide +kernel
theorem d_L_noted_12 : decode c_L_noted 12 = .ok (.astore_n 3, 1) := by decide +kernel
theorem d_L_noted_13 : decode c_L_noted 13 = .ok (.iconst 1, 1) := by decide +kernel
theorem d_L_noted_14 : decode c_L_noted 14 = .ok (.ireturn, 1) := by decide +kernel
theorem d_L_noted_15 : decode c_L_noted 15 = .ok (.iconst 0, 1) := by decide +kernel
theorem d_L_noted_16 : decode c_L_noted 16 = .ok (.ireturn, 1) := by decide +kernel
theorem d_J_noted_0 : decode c_J_noted 0 = .ok (.iload_n 1, 1) := by decide +kernel
theorem d_J_noted_1 : decode c_J_noted 1 = .ok (.ifCond .lt 17, 3) := by decide +kernel
theorem d_J_noted_4 : decode c_J_noted 4 = .ok (.iload_n 1, 1) := by decide +kernel
theorem d_J_noted_5 : decode c_J_noted 5 = .ok (.bipush 60, 2) := by decide +kernel
theorem d_J_noted_7 : decode c_J_noted 7 = .ok (.if_icmp .ge 11, 3) := by decide +kernel
theorem d_J_noted_10 : decode c_J_noted 10 = .ok (.iload_n 1, 1) := by decide +kernel
theorem d_J_noted_11 : decode c_J_noted 11 = .ok (.aload_n 0, 1) := by decide +kernel
theorem d_J_noted_12 : decode c_J_noted 12 = .ok (.getfield 129, 3) := by decide +kernel
theorem d_J_noted_15 : decode c_J_noted 15 = .ok (.if_icmp .lt 11, 3) := by decide +kernel
theorem d_J_noted_18 : decode c_J_noted 18 = .ok (.new 100, 3) := by decide +kernel
theorem d_J_noted_21 : decode c_J_noted 21 = .ok (.dup, 1) := by decide +kernel
theorem d_J_noted_22 : decode c_J_noted 22 = .ok (.invokespecial 102, 3) := by decide +kernel
theorem d_J_noted_25 : decode c_J_noted 25 = .ok (.athrow, 1) := by decide +kernel
theorem d_J_noted_26 : decode c_J_noted 26 = .ok (.aload_n 0, 1) := by decide +kernel
theorem d_J_noted_27 : decode c_J_noted 27 = .ok (.getfield 29, 3) := by decide +kernel
theorem d_J_noted_30 : decode c_J_noted 30 = .ok (.iload_n 1, 1) := by decide +kernel
theorem d_J_noted_31 : decode c_J_noted 31 = .ok (.iaload, 1) := by decide +kernel
theorem d_J_noted_32 : decode c_J_noted 32 = .ok (.ireturn, 1) := by decide +kernel
theorem d_R_init_0 : decode c_R_init 0 = .ok (.aload_n 0, 1) := by decide +kernel
theorem d_R_init_1 : decode c_R_init 1 = .ok (.invokespecial 1, 3) := by decide +kernel
theorem d_R_init_4 : decode c_R_init 4 = .ok (.aload_n 0, 1) := by decide +kernel
theorem d_R_init_5 : decode c_R_init 5 = .ok (.iconst 0, 1) := by decide +kernel
theorem d_R_init_6 : decode c_R_init 6 = .ok (.putfield 7, 3) := by decide +kernel
theorem d_R_init_9 : decode c_R_init 9 = .ok (.aload_n 0, 1) := by decide +kernel
theorem d_R_init_10 : decode c_R_init 10 = .ok (.iconst 0, 1) := by decide +kernel
theorem d_R_init_11 : decode c_R_init 11 = .ok (.putfield 13, 3) := by decide +kernel
theorem d_R_init_14 : decode c_R_init 14 = .ok (.aload_n 0, 1) := by decide +kernel
theorem d_R_init_15 : decode c_R_init 15 = .ok (.iconst 0, 1) := by decide +kernel
theorem d_R_init_16 : decode c_R_init 16 = .ok (.putfield 16, 3) := by decide +kernel
theorem d_R_init_19 : decode c_R_init 19 = .ok (.aload_n 0, 1) := by decide +kernel
theorem d_R_init_20 : decode c_R_init 20 = .ok (.iconst 0, 1) := by decide +kernel
theorem d_R_init_21 : decode c_R_init 21 = .ok (.putfield 19, 3) := by decide +kernel
theorem d_R_init_24 : decode c_R_init 24 = .ok (.aload_n 0, 1) := by decide +kernel
theorem d_R_init_25 : decode c_R_init 25 = .ok (.iconst 0, 1) := by decide +kernel
theorem d_R_init_26 : decode c_R_init 26 = .ok (.putfield 22, 3) := by decide +kernel
theorem d_R_init_29 : decode c_R_init 29 = .ok (.aload_n 0, 1) := by decide +kernel
theorem d_R_init_30 : decode c_R_init 30 = .ok (.iconst 0, 1) := by decide +kernel
theorem d_R_init_31 : decode c_R_init 31 = .ok (.putfield 25, 3) := by decide +kernel
theorem d_R_init_34 : decode c_R_init 34 = .ok (.aload_n 0, 1) := by decide +kernel
theorem d_R_init_35 : decode c_R_init 35 = .ok (.iconst 0, 1) := by decide +kernel
theorem d_R_init_36 : decode c_R_init 36 = .ok (.putfield 28, 3) := by decide +kernel
theorem d_R_init_39 : decode c_R_init 39 = .ok (.aload_n 0, 1) := by decide +kernel
theorem d_R_init_40 : decode c_R_init 40 = .ok (.iconst 0, 1) := by decide +kernel
theorem d_R_init_41 : decode c_R_init 41 = .ok (.putfield 31, 3) := by decide +kernel
theorem d_R_init_44 : decode c_R_init 44 = .ok (.aload_n 0, 1) := by decide +kernel
theorem d_R_init_45 : decode c_R_init 45 = .ok (.iconst (-1), 1) := by decide +kernel
theorem d_R_init_46 : decode c_R_init 46 = .ok (.putfield 34, 3) := by decide +kernel
theorem d_R_init_49 : decode c_R_init 49 = .ok (.aload_n 0, 1) := by decide +kernel
theorem d_R_init_50 : decode c_R_init 50 = .ok (.iconst 0, 1) := by decide +kernel
theorem d_R_init_51 : decode c_R_init 51 = .ok (.putfield 37, 3) := by decide +kernel
theorem d_R_init_54 : decode c_R_init 54 = .ok (.aload_n 0, 1) := by decide +kernel
theorem d_R_init_55 : decode c_R_init 55 = .ok (.iconst 0, 1) := by decide +kernel
theorem d_R_init_56 : decode c_R_init 56 = .ok (.putfield 40, 3) := by decide +kernel
theorem d_R_init_59 : decode c_R_init 59 = .ok (.aload_n 0, 1) := by decide +kernel
theorem d_R_init_60 : decode c_R_init 60 = .ok (.bipush 10, 2) := by decide +kernel
theorem d_R_init_62 : decode c_R_init 62 = .ok (.newarray .int, 2) := by decide +kernel
theorem d_R_init_64 : decode c_R_init 64 = .ok (.putfield 44, 3) := by decide +kernel
theorem d_R_init_67 : decode c_R_init 67 = .ok (.aload_n 0, 1) := by decide +kernel
theorem d_R_init_68 : decode c_R_init 68 = .ok (.bipush 80, 2) := by decide +kernel
theorem d_R_init_70 : decode c_R_init 70 = .ok (.newarray .int, 2) := by decide +kernel
theorem d_R_init_72 : decode c_R_init 72 = .ok (.putfield 48, 3) := by decide +kernel
theorem d_R_init_75 : decode c_R_init 75 = .ok (.aload_n 0, 1) := by decide +kernel
theorem d_R_init_76 : decode c_R_init 76 = .ok (.bipush 80, 2) := by decide +kernel
theorem d_R_init_78 : decode c_R_init 78 = .ok (.newarray .int, 2) := by decide +kernel
theorem d_R_init_80 : decode c_R_init 80 = .ok (.putfield 51, 3) := by decide +kernel
theorem d_R_init_83 : decode c_R_init 83 = .ok (.aload_n 0, 1) := by decide +kernel
theorem d_R_init_84 : decode c_R_init 84 = .ok (.bipush 80, 2) := by decide +kernel
theorem d_R_init_86 : decode c_R_init 86 = .ok (.newarray .int, 2) := by decide +kernel
theorem d_R_init_88 : decode c_R_init 88 = .ok (.putfield 54, 3) := by decide +kernel
theorem d_R_init_91 : decode c_R_init 91 = .ok (.aload_n 0, 1) := by decide +kernel
theorem d_R_init_92 : decode c_R_init 92 = .ok (.bipush 60, 2) := by decide +kernel
theorem d_R_init_94 : decode c_R_init 94 = .ok (.newarray .int, 2) := by decide +kernel
theorem d_R_init_96 : decode c_R_init 96 = .ok (.putfield 57, 3) := by decide +kernel
theorem d_R_init_99 : decode c_R_init 99 = .ok (.aload_n 0, 1) := by decide +kernel
theorem d_R_init_100 : decode c_R_init 100 = .ok (.bipush 24, 2) := by decide +kernel
theorem d_R_init_102 : decode c_R_init 102 = .ok (.newarray .int, 2) := by decide +kernel
theorem d_R_init_104 : decode c_R_init 104 = .ok (.putfield 60, 3) := by decide +kernel
theorem d_R_init_107 : decode c_R_init 107 = .ok (.aload_n 0, 1) := by decide +kernel
theorem d_R_init_108 : decode c_R_init 108 = .ok (.bipush 24, 2) := by decide +kernel
theorem d_R_init_110 : decode c_R_init 110 = .ok (.newarray .int, 2) := by decide +kernel
