/-! THE LAW'S CASES, 1 -/
theorem law_0 {w : WD} {p : Program} {l : Launch} {e : Env} {s : State} {m : MethodId} {below : List Frame} {meth : Method} {c : Code} {b L : Nat} {xs : Nat → Int32} : LCase w p l e s m below meth c b L xs 240 := by
  intro X n h cells slots hi hn hI hc hs kk
  obtain ⟨I, R, Lg, sh, N, tp, nt, nk, nP, nF, nS, kA, fA, cA, gA, rfl, hC, hr⟩ := hI
  obtain ⟨ac, az, hac, haz, hX⟩ := s_row hC hr (by omega) (x1 := xs (6 * n + 1)) (x2 := xs (6 * n + 2)) (x3 := xs (6 * n + 3))
  refine lr_aload (i := 1) X dL_240 rfl rfl lv1 ?_
  refine lr_arg (k := 1) X dL_241 rfl dL_242 rfl dL_243 rfl dL_244 rfl dL_245 rfl rfl (by omega) ?_
  refine lr_arg (k := 2) X dL_246 rfl dL_247 rfl dL_248 rfl dL_249 rfl dL_250 rfl rfl (by omega) ?_
  refine lr_arg (k := 3) X dL_251 rfl dL_252 rfl dL_253 rfl dL_254 rfl dL_255 rfl rfl (by omega) ?_
  refine lr_callv (M2 := mi_X_row) (id := 0) (as := [.int (xs (6 * n + 1)), .int (xs (6 * n + 2)), .int (xs (6 * n + 3))]) (rest := []) X dL_256 rfl k_L_13 cm_X_row cv_X_row (sh_0 hC.1.1) (Nat.le_of_ble_eq_true rfl) rfl rfl (Nat.le_of_ble_eq_true rfl) hX (by omega) (by omega) (by omega) rfl (fun r h1 hq => ?_)
  obtain ⟨ac2, az2, hac2, haz2, ⟨⟨v, rfl⟩, h761⟩, hM⟩ := hq
  change LR w p l e s m below meth c b 259 (LV w b (6 * n)) [.int v] h1 (cells + ac) (slots + az)
  refine lr_aload (i := 2) X dL_259 rfl rfl lv2 ?_
  refine lr_arg (k := 1) X dL_260 rfl dL_261 rfl dL_262 rfl dL_263 rfl dL_264 rfl rfl (by omega) ?_
  refine lr_arg (k := 2) X dL_265 rfl dL_266 rfl dL_267 rfl dL_268 rfl dL_269 rfl rfl (by omega) ?_
  refine lr_arg (k := 3) X dL_270 rfl dL_271 rfl dL_272 rfl dL_273 rfl dL_274 rfl rfl (by omega) ?_
  refine lr_callv (M2 := mi_M_row) (id := 761) (as := [.int (xs (6 * n + 1)), .int (xs (6 * n + 2)), .int (xs (6 * n + 3))]) (rest := [.int v]) X dL_275 rfl k_L_17 cm_M_row cv_M_row h761 (Nat.le_of_ble_eq_true rfl) rfl rfl (Nat.le_of_ble_eq_true rfl) hM (by omega) (by omega) (by omega) rfl (fun r2 h2 hq2 => ?_)
  obtain ⟨rfl, hI2⟩ := hq2
  change LR w p l e s m below meth c b 278 (LV w b (6 * n)) [.int v, .int v] h2 (cells + ac + ac2) (slots + az + az2)
  exact lr_same X dL_278 rfl (kk h2 _ _ hI2 (by omega) (by omega))
theorem law_1 {w : WD} {p : Program} {l : Launch} {e : Env} {s : State} {m : MethodId} {below : List Frame} {meth : Method} {c : Code} {b L : Nat} {xs : Nat → Int32} : LCase w p l e s m below meth c b L xs 283 := by
  intro X n h cells slots hi hn hI hc hs kk
  obtain ⟨I, R, Lg, sh, N, tp, nt, nk, nP, nF, nS, kA, fA, cA, gA, rfl, hC, hr⟩ := hI
  obtain ⟨ac, az, hac, haz, hX⟩ := s_set hC hr (by omega) (x1 := xs (6 * n + 1)) (x2 := xs (6 * n + 2)) (x3 := (((xs (6 * n + 3)).toInt64 <<< (((32 : Int32)).toInt64 &&& 63)) ||| ((xs (6 * n + 4)).toInt64 &&& 4294967295)))
  refine lr_aload (i := 1) X dL_283 rfl rfl lv1 ?_
  refine lr_arg (k := 1) X dL_284 rfl dL_285 rfl dL_286 rfl dL_287 rfl dL_288 rfl rfl (by omega) ?_
  refine lr_arg (k := 2) X dL_289 rfl dL_290 rfl dL_291 rfl dL_292 rfl dL_293 rfl rfl (by omega) ?_
  refine lr_arg (k := 3) X dL_294 rfl dL_295 rfl dL_296 rfl dL_297 rfl dL_298 rfl rfl (by omega) ?_
  refine lr_i2l X dL_299 rfl ?_
  refine lr_bipush (v := 32) X dL_300 rfl (by decide) ?_
  refine lr_lshl X dL_302 rfl ?_
  refine lr_arg (k := 4) X dL_303 rfl dL_304 rfl dL_305 rfl dL_306 rfl dL_307 rfl rfl (by omega) ?_
  refine lr_i2l X dL_308 rfl ?_
  refine lr_ldc2 X dL_309 rfl k_L_18 ?_
  refine lr_land X dL_312 rfl ?_
  refine lr_lor X dL_313 rfl ?_
  refine lr_callv (M2 := mi_X_set) (id := 0) (as := [.int (xs (6 * n + 1)), .int (xs (6 * n + 2)), .long ((((xs (6 * n + 3)).toInt64 <<< (((32 : Int32)).toInt64 &&& 63)) ||| ((xs (6 * n + 4)).toInt64 &&& 4294967295)))]) (rest := []) X dL_314 rfl k_L_20 cm_X_set cv_X_set (sh_0 hC.1.1) (Nat.le_of_ble_eq_true rfl) rfl rfl (Nat.le_of_ble_eq_true rfl) hX (by omega) (by omega) (by omega) rfl (fun r h1 hq => ?_)
  obtain ⟨ac2, az2, hac2, haz2, ⟨⟨v, rfl⟩, h761⟩, hM⟩ := hq
  change LR w p l e s m below meth c b 317 (LV w b (6 * n)) [.int v] h1 (cells + ac) (slots + az)
  refine lr_aload (i := 2) X dL_317 rfl rfl lv2 ?_
  refine lr_arg (k := 1) X dL_318 rfl dL_319 rfl dL_320 rfl dL_321 rfl dL_322 rfl rfl (by omega) ?_
  refine lr_arg (k := 2) X dL_323 rfl dL_324 rfl dL_325 rfl dL_326 rfl dL_327 rfl rfl (by omega) ?_
  refine lr_arg (k := 3) X dL_328 rfl dL_329 rfl dL_330 rfl dL_331 rfl dL_332 rfl rfl (by omega) ?_
  refine lr_i2l X dL_333 rfl ?_
  refine lr_bipush (v := 32) X dL_334 rfl (by decide) ?_
  refine lr_lshl X dL_336 rfl ?_
  refine lr_arg (k := 4) X dL_337 rfl dL_338 rfl dL_339 rfl dL_340 rfl dL_341 rfl rfl (by omega) ?_
  refine lr_i2l X dL_342 rfl ?_
  refine lr_ldc2 X dL_343 rfl k_L_18 ?_
  refine lr_land X dL_346 rfl ?_
  refine lr_lor X dL_347 rfl ?_
  refine lr_callv (M2 := mi_M_set) (id := 761) (as := [.int (xs (6 * n + 1)), .int (xs (6 * n + 2)), .long ((((xs (6 * n + 3)).toInt64 <<< (((32 : Int32)).toInt64 &&& 63)) ||| ((xs (6 * n + 4)).toInt64 &&& 4294967295)))]) (rest := [.int v]) X dL_348 rfl k_L_24 cm_M_set cv_M_set h761 (Nat.le_of_ble_eq_true rfl) rfl rfl (Nat.le_of_ble_eq_true rfl) hM (by omega) (by omega) (by omega) rfl (fun r2 h2 hq2 => ?_)
  obtain ⟨rfl, hI2⟩ := hq2
  change LR w p l e s m below meth c b 351 (LV w b (6 * n)) [.int v, .int v] h2 (cells + ac + ac2) (slots + az + az2)
  exact lr_same X dL_351 rfl (kk h2 _ _ hI2 (by omega) (by omega))
theorem law_2 {w : WD} {p : Program} {l : Launch} {e : Env} {s : State} {m : MethodId} {below : List Frame} {meth : Method} {c : Code} {b L : Nat} {xs : Nat → Int32} : LCase w p l e s m below meth c b L xs 356 := by
  intro X n h cells slots hi hn hI hc hs kk
  obtain ⟨I, R, Lg, sh, N, tp, nt, nk, nP, nF, nS, kA, fA, cA, gA, rfl, hC, hr⟩ := hI
  obtain ⟨ac, az, hac, haz, hX⟩ := s_copy hC hr (by omega) (x1 := xs (6 * n + 1)) (x2 := xs (6 * n + 2)) (x3 := xs (6 * n + 3)) (x4 := xs (6 * n + 4)) (x5 := xs (6 * n + 5))
  refine lr_aload (i := 1) X dL_356 rfl rfl lv1 ?_
  refine lr_arg (k := 1) X dL_357 rfl dL_358 rfl dL_359 rfl dL_360 rfl dL_361 rfl rfl (by omega) ?_
  refine lr_arg (k := 2) X dL_362 rfl dL_363 rfl dL_364 rfl dL_365 rfl dL_366 rfl rfl (by omega) ?_
  refine lr_arg (k := 3) X dL_367 rfl dL_368 rfl dL_369 rfl dL_370 rfl dL_371 rfl rfl (by omega) ?_
  refine lr_arg (k := 4) X dL_372 rfl dL_373 rfl dL_374 rfl dL_375 rfl dL_376 rfl rfl (by omega) ?_
  refine lr_arg (k := 5) X dL_377 rfl dL_378 rfl dL_379 rfl dL_380 rfl dL_381 rfl rfl (by omega) ?_
  refine lr_callv (M2 := mi_X_copy) (id := 0) (as := [.int (xs (6 * n + 1)), .int (xs (6 * n + 2)), .int (xs (6 * n + 3)), .int (xs (6 * n + 4)), .int (xs (6 * n + 5))]) (rest := []) X dL_382 rfl k_L_25 cm_X_copy cv_X_copy (sh_0 hC.1.1) (Nat.le_of_ble_eq_true rfl) rfl rfl (Nat.le_of_ble_eq_true rfl) hX (by omega) (by omega) (by omega) rfl (fun r h1 hq => ?_)
  obtain ⟨ac2, az2, hac2, haz2, ⟨⟨v, rfl⟩, h761⟩, hM⟩ := hq
  change LR w p l e s m below meth c b 385 (LV w b (6 * n)) [.int v] h1 (cells + ac) (slots + az)
  refine lr_aload (i := 2) X dL_385 rfl rfl lv2 ?_
  refine lr_arg (k := 1) X dL_386 rfl dL_387 rfl dL_388 rfl dL_389 rfl dL_390 rfl rfl (by omega) ?_
  refine lr_arg (k := 2) X dL_391 rfl dL_392 rfl dL_393 rfl dL_394 rfl dL_395 rfl rfl (by omega) ?_
  refine lr_arg (k := 3) X dL_396 rfl dL_397 rfl dL_398 rfl dL_399 rfl dL_400 rfl rfl (by omega) ?_
  refine lr_arg (k := 4) X dL_401 rfl dL_402 rfl dL_403 rfl dL_404 rfl dL_405 rfl rfl (by omega) ?_
  refine lr_arg (k := 5) X dL_406 rfl dL_407 rfl dL_408 rfl dL_409 rfl dL_410 rfl rfl (by omega) ?_
  refine lr_callv (M2 := mi_M_copy) (id := 761) (as := [.int (xs (6 * n + 1)), .int (xs (6 * n + 2)), .int (xs (6 * n + 3)), .int (xs (6 * n + 4)), .int (xs (6 * n + 5))]) (rest := [.int v]) X dL_411 rfl k_L_29 cm_M_copy cv_M_copy h761 (Nat.le_of_ble_eq_true rfl) rfl rfl (Nat.le_of_ble_eq_true rfl) hM (by omega) (by omega) (by omega) rfl (fun r2 h2 hq2 => ?_)
  obtain ⟨rfl, hI2⟩ := hq2
  change LR w p l e s m below meth c b 414 (LV w b (6 * n)) [.int v, .int v] h2 (cells + ac + ac2) (slots + az + az2)
  exact lr_same X dL_414 rfl (kk h2 _ _ hI2 (by omega) (by omega))
theorem law_3 {w : WD} {p : Program} {l : Launch} {e : Env} {s : State} {m : MethodId} {below : List Frame} {meth : Method} {c : Code} {b L : Nat} {xs : Nat → Int32} : LCase w p l e s m below meth c b L xs 419 := by
  intro X n h cells slots hi hn hI hc hs kk
  obtain ⟨I, R, Lg, sh, N, tp, nt, nk, nP, nF, nS, kA, fA, cA, gA, rfl, hC, hr⟩ := hI
  obtain ⟨ac, az, hac, haz, hX⟩ := s_element hC hr (by omega) (x1 := xs (6 * n + 1)) (x2 := xs (6 * n + 2))
  refine lr_aload (i := 1) X dL_419 rfl rfl lv1 ?_
  refine lr_arg (k := 1) X dL_420 rfl dL_421 rfl dL_422 rfl dL_423 rfl dL_424 rfl rfl (by omega) ?_
  refine lr_arg (k := 2) X dL_425 rfl dL_426 rfl dL_427 rfl dL_428 rfl dL_429 rfl rfl (by omega) ?_
  refine lr_callv (M2 := mi_X_element) (id := 0) (as := [.int (xs (6 * n + 1)), .int (xs (6 * n + 2))]) (rest := []) X dL_430 rfl k_L_30 cm_X_element cv_X_element (sh_0 hC.1.1) (Nat.le_of_ble_eq_true rfl) rfl rfl (Nat.le_of_ble_eq_true rfl) hX (by omega) (by omega) (by omega) rfl (fun r h1 hq => ?_)
  obtain ⟨ac2, az2, hac2, haz2, ⟨⟨v, rfl⟩, h761⟩, hM⟩ := hq
  change LR w p l e s m below meth c b 433 (LV w b (6 * n)) [.long v] h1 (cells + ac) (slots + az)
  refine lr_aload (i := 2) X dL_433 rfl rfl lv2 ?_
  refine lr_arg (k := 1) X dL_434 rfl dL_435 rfl dL_436 rfl dL_437 rfl dL_438 rfl rfl (by omega) ?_
  refine lr_arg (k := 2) X dL_439 rfl dL_440 rfl dL_441 rfl dL_442 rfl dL_443 rfl rfl (by omega) ?_
  refine lr_callv (M2 := mi_M_element) (id := 761) (as := [.int (xs (6 * n + 1)), .int (xs (6 * n + 2))]) (rest := [.long v]) X dL_444 rfl k_L_34 cm_M_element cv_M_element h761 (Nat.le_of_ble_eq_true rfl) rfl rfl (Nat.le_of_ble_eq_true rfl) hM (by omega) (by omega) (by omega) rfl (fun r2 h2 hq2 => ?_)
  obtain ⟨rfl, hI2⟩ := hq2
  change LR w p l e s m below meth c b 447 (LV w b (6 * n)) [.long v, .long v] h2 (cells + ac + ac2) (slots + az + az2)
  exact lr_sameL X dL_447 rfl dL_448 rfl (kk h2 _ _ hI2 (by omega) (by omega))
theorem law_4 {w : WD} {p : Program} {l : Launch} {e : Env} {s : State} {m : MethodId} {below : List Frame} {meth : Method} {c : Code} {b L : Nat} {xs : Nat → Int32} : LCase w p l e s m below meth c b L xs 453 := by
  intro X n h cells slots hi hn hI hc hs kk
  obtain ⟨I, R, Lg, sh, N, tp, nt, nk, nP, nF, nS, kA, fA, cA, gA, rfl, hC, hr⟩ := hI
  obtain ⟨ac, az, hac, haz, hX⟩ := s_holds hC hr (by omega) (x1 := xs (6 * n + 1))
  refine lr_aload (i := 1) X dL_453 rfl rfl lv1 ?_
  refine lr_arg (k := 1) X dL_454 rfl dL_455 rfl dL_456 rfl dL_457 rfl dL_458 rfl rfl (by omega) ?_
  refine lr_callv (M2 := mi_X_holds) (id := 0) (as := [.int (xs (6 * n + 1))]) (rest := []) X dL_459 rfl k_L_35 cm_X_holds cv_X_holds (sh_0 hC.1.1) (Nat.le_of_ble_eq_true rfl) rfl rfl (Nat.le_of_ble_eq_true rfl) hX (by omega) (by omega) (by omega) rfl (fun r h1 hq => ?_)
  obtain ⟨ac2, az2, hac2, haz2, ⟨⟨v, rfl⟩, h761⟩, hM⟩ := hq
  change LR w p l e s m below meth c b 462 (LV w b (6 * n)) [.int v] h1 (cells + ac) (slots + az)
  refine lr_aload (i := 2) X dL_462 rfl rfl lv2 ?_
  refine lr_arg (k := 1) X dL_463 rfl dL_464 rfl dL_465 rfl dL_466 rfl dL_467 rfl rfl (by omega) ?_
  refine lr_callv (M2 := mi_M_holds) (id := 761) (as := [.int (xs (6 * n + 1))]) (rest := [.int v]) X dL_468 rfl k_L_39 cm_M_holds cv_M_holds h761 (Nat.le_of_ble_eq_true rfl) rfl rfl (Nat.le_of_ble_eq_true rfl) hM (by omega) (by omega) (by omega) rfl (fun r2 h2 hq2 => ?_)
  obtain ⟨rfl, hI2⟩ := hq2
  change LR w p l e s m below meth c b 471 (LV w b (6 * n)) [.int v, .int v] h2 (cells + ac + ac2) (slots + az + az2)
  exact lr_same X dL_471 rfl (kk h2 _ _ hI2 (by omega) (by omega))
theorem law_5 {w : WD} {p : Program} {l : Launch} {e : Env} {s : State} {m : MethodId} {below : List Frame} {meth : Method} {c : Code} {b L : Nat} {xs : Nat → Int32} : LCase w p l e s m below meth c b L xs 476 := by
  intro X n h cells slots hi hn hI hc hs kk
  obtain ⟨I, R, Lg, sh, N, tp, nt, nk, nP, nF, nS, kA, fA, cA, gA, rfl, hC, hr⟩ := hI
  obtain ⟨ac, az, hac, haz, hX⟩ := s_show hC hr (by omega) (x1 := xs (6 * n + 1)) (x2 := xs (6 * n + 2)) (x3 := xs (6 * n + 3)) (x4 := xs (6 * n + 4))
  refine lr_aload (i := 1) X dL_476 rfl rfl lv1 ?_
  refine lr_arg (k := 1) X dL_477 rfl dL_478 rfl dL_479 rfl dL_480 rfl dL_481 rfl rfl (by omega) ?_
  refine lr_arg (k := 2) X dL_482 rfl dL_483 rfl dL_484 rfl dL_485 rfl dL_486 rfl rfl (by omega) ?_
  refine lr_arg (k := 3) X dL_487 rfl dL_488 rfl dL_489 rfl dL_490 rfl dL_491 rfl rfl (by omega) ?_
  refine lr_arg (k := 4) X dL_492 rfl dL_493 rfl dL_494 rfl dL_495 rfl dL_496 rfl rfl (by omega) ?_
  refine lr_callv (M2 := mi_X_show) (id := 0) (as := [.int (xs (6 * n + 1)), .int (xs (6 * n + 2)), .int (xs (6 * n + 3)), .int (xs (6 * n + 4))]) (rest := []) X dL_497 rfl k_L_40 cm_X_show cv_X_show (sh_0 hC.1.1) (Nat.le_of_ble_eq_true rfl) rfl rfl (Nat.le_of_ble_eq_true rfl) hX (by omega) (by omega) (by omega) rfl (fun r h1 hq => ?_)
  obtain ⟨ac2, az2, hac2, haz2, ⟨⟨v, rfl⟩, h761⟩, hM⟩ := hq
  change LR w p l e s m below meth c b 500 (LV w b (6 * n)) [.int v] h1 (cells + ac) (slots + az)
  refine lr_aload (i := 2) X dL_500 rfl rfl lv2 ?_
  refine lr_arg (k := 1) X dL_501 rfl dL_502 rfl dL_503 rfl dL_504 rfl dL_505 rfl rfl (by omega) ?_
  refine lr_arg (k := 2) X dL_506 rfl dL_507 rfl dL_508 rfl dL_509 rfl dL_510 rfl rfl (by omega) ?_
  refine lr_arg (k := 3) X dL_511 rfl dL_512 rfl dL_513 rfl dL_514 rfl dL_515 rfl rfl (by omega) ?_
  refine lr_arg (k := 4) X dL_516 rfl dL_517 rfl dL_518 rfl dL_519 rfl dL_520 rfl rfl (by omega) ?_
  refine lr_callv (M2 := mi_M_show) (id := 761) (as := [.int (xs (6 * n + 1)), .int (xs (6 * n + 2)), .int (xs (6 * n + 3)), .int (xs (6 * n + 4))]) (rest := [.int v]) X dL_521 rfl k_L_44 cm_M_show cv_M_show h761 (Nat.le_of_ble_eq_true rfl) rfl rfl (Nat.le_of_ble_eq_true rfl) hM (by omega) (by omega) (by omega) rfl (fun r2 h2 hq2 => ?_)
  obtain ⟨rfl, hI2⟩ := hq2
  change LR w p l e s m below meth c b 524 (LV w b (6 * n)) [.int v, .int v] h2 (cells + ac + ac2) (slots + az + az2)
  exact lr_same X dL_524 rfl (kk h2 _ _ hI2 (by omega) (by omega))
theorem law_6 {w : WD} {p : Program} {l : Launch} {e : Env} {s : State} {m : MethodId} {below : List Frame} {meth : Method} {c : Code} {b L : Nat} {xs : Nat → Int32} : LCase w p l e s m below meth c b L xs 529 := by
  intro X n h cells slots hi hn hI hc hs kk
  obtain ⟨I, R, Lg, sh, N, tp, nt, nk, nP, nF, nS, kA, fA, cA, gA, rfl, hC, hr⟩ := hI
  obtain ⟨ac, az, hac, haz, hX⟩ := s_says hC hr (by omega) (x1 := xs (6 * n + 1)) (x2 := xs (6 * n + 2))
  refine lr_aload (i := 1) X dL_529 rfl rfl lv1 ?_
  refine lr_arg (k := 1) X dL_530 rfl dL_531 rfl dL_532 rfl dL_533 rfl dL_534 rfl rfl (by omega) ?_
  refine lr_arg (k := 2) X dL_535 rfl dL_536 rfl dL_537 rfl dL_538 rfl dL_539 rfl rfl (by omega) ?_
  refine lr_callv (M2 := mi_X_says) (id := 0) (as := [.int (xs (6 * n + 1)), .int (xs (6 * n + 2))]) (rest := []) X dL_540 rfl k_L_45 cm_X_says cv_X_says (sh_0 hC.1.1) (Nat.le_of_ble_eq_true rfl) rfl rfl (Nat.le_of_ble_eq_true rfl) hX (by omega) (by omega) (by omega) rfl (fun r h1 hq => ?_)
  obtain ⟨ac2, az2, hac2, haz2, ⟨⟨v, rfl⟩, h761⟩, hM⟩ := hq
  change LR w p l e s m below meth c b 543 (LV w b (6 * n)) [.int v] h1 (cells + ac) (slots + az)
  refine lr_aload (i := 2) X dL_543 rfl rfl lv2 ?_
  refine lr_arg (k := 1) X dL_544 rfl dL_545 rfl dL_546 rfl dL_547 rfl dL_548 rfl rfl (by omega) ?_
  refine lr_arg (k := 2) X dL_549 rfl dL_550 rfl dL_551 rfl dL_552 rfl dL_553 rfl rfl (by omega) ?_
  refine lr_callv (M2 := mi_M_says) (id := 761) (as := [.int (xs (6 * n + 1)), .int (xs (6 * n + 2))]) (rest := [.int v]) X dL_554 rfl k_L_49 cm_M_says cv_M_says h761 (Nat.le_of_ble_eq_true rfl) rfl rfl (Nat.le_of_ble_eq_true rfl) hM (by omega) (by omega) (by omega) rfl (fun r2 h2 hq2 => ?_)
  obtain ⟨rfl, hI2⟩ := hq2
  change LR w p l e s m below meth c b 557 (LV w b (6 * n)) [.int v, .int v] h2 (cells + ac + ac2) (slots + az + az2)
  exact lr_same X dL_557 rfl (kk h2 _ _ hI2 (by omega) (by omega))
theorem law_7 {w : WD} {p : Program} {l : Launch} {e : Env} {s : State} {m : MethodId} {below : List Frame} {meth : Method} {c : Code} {b L : Nat} {xs : Nat → Int32} : LCase w p l e s m below meth c b L xs 562 := by
  intro X n h cells slots hi hn hI hc hs kk
  obtain ⟨I, R, Lg, sh, N, tp, nt, nk, nP, nF, nS, kA, fA, cA, gA, rfl, hC, hr⟩ := hI
  obtain ⟨ac, az, hac, haz, hX⟩ := s_feed hC hr (by omega) (x1 := xs (6 * n + 1))
  refine lr_aload (i := 1) X dL_562 rfl rfl lv1 ?_
  refine lr_arg (k := 1) X dL_563 rfl dL_564 rfl dL_565 rfl dL_566 rfl dL_567 rfl rfl (by omega) ?_
  refine lr_callv (M2 := mi_X_feed) (id := 0) (as := [.int (xs (6 * n + 1))]) (rest := []) X dL_568 rfl k_L_50 cm_X_feed cv_X_feed (sh_0 hC.1.1) (Nat.le_of_ble_eq_true rfl) rfl rfl (Nat.le_of_ble_eq_true rfl) hX (by omega) (by omega) (by omega) rfl (fun r h1 hq => ?_)
  obtain ⟨ac2, az2, hac2, haz2, ⟨⟨v, rfl⟩, h761⟩, hM⟩ := hq
  change LR w p l e s m below meth c b 571 (LV w b (6 * n)) [.int v] h1 (cells + ac) (slots + az)
  refine lr_aload (i := 2) X dL_571 rfl rfl lv2 ?_
  refine lr_arg (k := 1) X dL_572 rfl dL_573 rfl dL_574 rfl dL_575 rfl dL_576 rfl rfl (by omega) ?_
  refine lr_callv (M2 := mi_M_feed) (id := 761) (as := [.int (xs (6 * n + 1))]) (rest := [.int v]) X dL_577 rfl k_L_53 cm_M_feed cv_M_feed h761 (Nat.le_of_ble_eq_true rfl) rfl rfl (Nat.le_of_ble_eq_true rfl) hM (by omega) (by omega) (by omega) rfl (fun r2 h2 hq2 => ?_)
  obtain ⟨rfl, hI2⟩ := hq2
  change LR w p l e s m below meth c b 580 (LV w b (6 * n)) [.int v, .int v] h2 (cells + ac + ac2) (slots + az + az2)
  exact lr_same X dL_580 rfl (kk h2 _ _ hI2 (by omega) (by omega))
theorem law_8 {w : WD} {p : Program} {l : Launch} {e : Env} {s : State} {m : MethodId} {below : List Frame} {meth : Method} {c : Code} {b L : Nat} {xs : Nat → Int32} : LCase w p l e s m below meth c b L xs 585 := by
  intro X n h cells slots hi hn hI hc hs kk
  obtain ⟨I, R, Lg, sh, N, tp, nt, nk, nP, nF, nS, kA, fA, cA, gA, rfl, hC, hr⟩ := hI
  obtain ⟨ac, az, hac, haz, hX⟩ := s_wipe hC hr (by omega)
  refine lr_aload (i := 1) X dL_585 rfl rfl lv1 ?_
  refine lr_callv (M2 := mi_X_wipe) (id := 0) (as := []) (rest := []) X dL_586 rfl k_L_54 cm_X_wipe cv_X_wipe (sh_0 hC.1.1) (Nat.le_of_ble_eq_true rfl) rfl rfl (Nat.le_of_ble_eq_true rfl) hX (by omega) (by omega) (by omega) rfl (fun r h1 hq => ?_)
  obtain ⟨ac2, az2, hac2, haz2, ⟨⟨v, rfl⟩, h761⟩, hM⟩ := hq
  change LR w p l e s m below meth c b 589 (LV w b (6 * n)) [.int v] h1 (cells + ac) (slots + az)
  refine lr_aload (i := 2) X dL_589 rfl rfl lv2 ?_
  refine lr_callv (M2 := mi_M_wipe) (id := 761) (as := []) (rest := [.int v]) X dL_590 rfl k_L_58 cm_M_wipe cv_M_wipe h761 (Nat.le_of_ble_eq_true rfl) rfl rfl (Nat.le_of_ble_eq_true rfl) hM (by omega) (by omega) (by omega) rfl (fun r2 h2 hq2 => ?_)
  obtain ⟨rfl, hI2⟩ := hq2
  change LR w p l e s m below meth c b 593 (LV w b (6 * n)) [.int v, .int v] h2 (cells + ac + ac2) (slots + az + az2)
  exact lr_same X dL_593 rfl (kk h2 _ _ hI2 (by omega) (by omega))
theorem law_9 {w : WD} {p : Program} {l : Launch} {e : Env} {s : State} {m : MethodId} {below : List Frame} {meth : Method} {c : Code} {b L : Nat} {xs : Nat → Int32} : LCase w p l e s m below meth c b L xs 598 := by
  intro X n h cells slots hi hn hI hc hs kk
  obtain ⟨I, R, Lg, sh, N, tp, nt, nk, nP, nF, nS, kA, fA, cA, gA, rfl, hC, hr⟩ := hI
  obtain ⟨ac, az, hac, haz, hX⟩ := s_person hC hr (by omega) (x1 := xs (6 * n + 1)) (x2 := xs (6 * n + 2))
  refine lr_aload (i := 1) X dL_598 rfl rfl lv1 ?_
  refine lr_arg (k := 1) X dL_599 rfl dL_600 rfl dL_601 rfl dL_602 rfl dL_603 rfl rfl (by omega) ?_
  refine lr_arg (k := 2) X dL_604 rfl dL_605 rfl dL_606 rfl dL_607 rfl dL_608 rfl rfl (by omega) ?_
  refine lr_callv (M2 := mi_X_person) (id := 0) (as := [.int (xs (6 * n + 1)), .int (xs (6 * n + 2))]) (rest := []) X dL_609 rfl k_L_59 cm_X_person cv_X_person (sh_0 hC.1.1) (Nat.le_of_ble_eq_true rfl) rfl rfl (Nat.le_of_ble_eq_true rfl) hX (by omega) (by omega) (by omega) rfl (fun r h1 hq => ?_)
  obtain ⟨ac2, az2, hac2, haz2, ⟨⟨v, rfl⟩, h761⟩, hM⟩ := hq
  change LR w p l e s m below meth c b 612 (LV w b (6 * n)) [.int v] h1 (cells + ac) (slots + az)
  refine lr_aload (i := 2) X dL_612 rfl rfl lv2 ?_
  refine lr_arg (k := 1) X dL_613 rfl dL_614 rfl dL_615 rfl dL_616 rfl dL_617 rfl rfl (by omega) ?_
  refine lr_arg (k := 2) X dL_618 rfl dL_619 rfl dL_620 rfl dL_621 rfl dL_622 rfl rfl (by omega) ?_
  refine lr_callv (M2 := mi_M_person) (id := 761) (as := [.int (xs (6 * n + 1)), .int (xs (6 * n + 2))]) (rest := [.int v]) X dL_623 rfl k_L_62 cm_M_person cv_M_person h761 (Nat.le_of_ble_eq_true rfl) rfl rfl (Nat.le_of_ble_eq_true rfl) hM (by omega) (by omega) (by omega) rfl (fun r2 h2 hq2 => ?_)
  obtain ⟨rfl, hI2⟩ := hq2
  change LR w p l e s m below meth c b 626 (LV w b (6 * n)) [.int v, .int v] h2 (cells + ac + ac2) (slots + az + az2)
  exact lr_same X dL_626 rfl (kk h2 _ _ hI2 (by omega) (by omega))
theorem law_10 {w : WD} {p : Program} {l : Launch} {e : Env} {s : State} {m : MethodId} {below : List Frame} {meth : Method} {c : Code} {b L : Nat} {xs : Nat → Int32} : LCase w p l e s m below meth c b L xs 631 := by
  intro X n h cells slots hi hn hI hc hs kk
  obtain ⟨I, R, Lg, sh, N, tp, nt, nk, nP, nF, nS, kA, fA, cA, gA, rfl, hC, hr⟩ := hI
  obtain ⟨ac, az, hac, haz, hX⟩ := s_gone hC hr (by omega) (x1 := xs (6 * n + 1))
  refine lr_aload (i := 1) X dL_631 rfl rfl lv1 ?_
  refine lr_arg (k := 1) X dL_632 rfl dL_633 rfl dL_634 rfl dL_635 rfl dL_636 rfl rfl (by omega) ?_
  refine lr_callv (M2 := mi_X_gone) (id := 0) (as := [.int (xs (6 * n + 1))]) (rest := []) X dL_637 rfl k_L_63 cm_X_gone cv_X_gone (sh_0 hC.1.1) (Nat.le_of_ble_eq_true rfl) rfl rfl (Nat.le_of_ble_eq_true rfl) hX (by omega) (by omega) (by omega) rfl (fun r h1 hq => ?_)
  obtain ⟨ac2, az2, hac2, haz2, ⟨⟨v, rfl⟩, h761⟩, hM⟩ := hq
  change LR w p l e s m below meth c b 640 (LV w b (6 * n)) [.int v] h1 (cells + ac) (slots + az)
  refine lr_aload (i := 2) X dL_640 rfl rfl lv2 ?_
  refine lr_arg (k := 1) X dL_641 rfl dL_642 rfl dL_643 rfl dL_644 rfl dL_645 rfl rfl (by omega) ?_
  refine lr_callv (M2 := mi_M_gone) (id := 761) (as := [.int (xs (6 * n + 1))]) (rest := [.int v]) X dL_646 rfl k_L_66 cm_M_gone cv_M_gone h761 (Nat.le_of_ble_eq_true rfl) rfl rfl (Nat.le_of_ble_eq_true rfl) hM (by omega) (by omega) (by omega) rfl (fun r2 h2 hq2 => ?_)
  obtain ⟨rfl, hI2⟩ := hq2
  change LR w p l e s m below meth c b 649 (LV w b (6 * n)) [.int v, .int v] h2 (cells + ac + ac2) (slots + az + az2)
  exact lr_same X dL_649 rfl (kk h2 _ _ hI2 (by omega) (by omega))
theorem law_11 {w : WD} {p : Program} {l : Launch} {e : Env} {s : State} {m : MethodId} {below : List Frame} {meth : Method} {c : Code} {b L : Nat} {xs : Nat → Int32} : LCase w p l e s m below meth c b L xs 654 := by
  intro X n h cells slots hi hn hI hc hs kk
  obtain ⟨I, R, Lg, sh, N, tp, nt, nk, nP, nF, nS, kA, fA, cA, gA, rfl, hC, hr⟩ := hI
  obtain ⟨ac, az, hac, haz, hX⟩ := s_personOf hC hr (by omega) (x1 := xs (6 * n + 1))
  refine lr_aload (i := 1) X dL_654 rfl rfl lv1 ?_
  refine lr_arg (k := 1) X dL_655 rfl dL_656 rfl dL_657 rfl dL_658 rfl dL_659 rfl rfl (by omega) ?_
  refine lr_callv (M2 := mi_X_personOf) (id := 0) (as := [.int (xs (6 * n + 1))]) (rest := []) X dL_660 rfl k_L_67 cm_X_personOf cv_X_personOf (sh_0 hC.1.1) (Nat.le_of_ble_eq_true rfl) rfl rfl (Nat.le_of_ble_eq_true rfl) hX (by omega) (by omega) (by omega) rfl (fun r h1 hq => ?_)
  obtain ⟨ac2, az2, hac2, haz2, ⟨⟨v, rfl⟩, h761⟩, hM⟩ := hq
  change LR w p l e s m below meth c b 663 (LV w b (6 * n)) [.int v] h1 (cells + ac) (slots + az)
  refine lr_aload (i := 2) X dL_663 rfl rfl lv2 ?_
  refine lr_arg (k := 1) X dL_664 rfl dL_665 rfl dL_666 rfl dL_667 rfl dL_668 rfl rfl (by omega) ?_
  refine lr_callv (M2 := mi_M_personOf) (id := 761) (as := [.int (xs (6 * n + 1))]) (rest := [.int v]) X dL_669 rfl k_L_70 cm_M_personOf cv_M_personOf h761 (Nat.le_of_ble_eq_true rfl) rfl rfl (Nat.le_of_ble_eq_true rfl) hM (by omega) (by omega) (by omega) rfl (fun r2 h2 hq2 => ?_)
  obtain ⟨rfl, hI2⟩ := hq2
  change LR w p l e s m below meth c b 672 (LV w b (6 * n)) [.int v, .int v] h2 (cells + ac + ac2) (slots + az + az2)
  exact lr_same X dL_672 rfl (kk h2 _ _ hI2 (by omega) (by omega))
