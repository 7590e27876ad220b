/-! the law: a case a call -/
section
variable {p : Program} {l : Launch} {e : Env} {s : State} {m : MethodId} {below : List Frame} {meth : Method} {c : Code} {G : va_G} {cI cQ : ClassId} {ad : Nat → Nat} {A : Nat → Prop} {b L : Nat} {xs : Nat → Int32} {i : Nat} {M : ZMem} {z : ZS}
theorem lc_0 (C : LC p s m meth c G cI cQ ad A b L xs) (hL : L ≤ 3584) (hi : i + 6 < L) (hx : zIx M z) (hm : zIm M z) (hk : zSk z) (next : ∀ M' z', zIx M' z' → zIm M' z' → zSk z' → LJ p l e s m below meth c G cI cQ ad A b 1382 i [] M') : LJ p l e s m below meth c G cI cQ ad A b 208 i [] M := by
  refine lj_a1 C dL_law_208 rfl ?_
  refine lj_arg (j := 1) C hL (by omega) dL_law_209 dL_law_210 dL_law_211 dL_law_212 dL_law_213 (by decide) rfl ?_
  refine lj_gx (as := [.int (xs (i + 1))]) C dL_law_214 rfl lkL_13 rfl rfl rfl rfl (by decide) (gx_letter (d := 0) (xs (i + 1))) hx hk (fun M1 h1 s1 => ?_)
  refine lj_a2 C dL_law_217 rfl ?_
  refine lj_arg (j := 1) C hL (by omega) dL_law_218 dL_law_219 dL_law_220 dL_law_221 dL_law_222 (by decide) rfl ?_
  refine lj_gm (as := [.int (xs (i + 1))]) C dL_law_223 rfl lkL_17 rfl rfl rfl rfl (by decide) (gm_letter (d := 0) (xs (i + 1))) (hm.same s1) hk (fun M2 h2 s2 => ?_)
  refine lj_eq C dL_law_226 (by decide) ?_
  exact next M2 _ (h1.same s2) h2 (k_letter (xs (i + 1)) hk)
theorem lc_1 (C : LC p s m meth c G cI cQ ad A b L xs) (hL : L ≤ 3584) (hi : i + 6 < L) (hx : zIx M z) (hm : zIm M z) (hk : zSk z) (next : ∀ M' z', zIx M' z' → zIm M' z' → zSk z' → LJ p l e s m below meth c G cI cQ ad A b 1382 i [] M') : LJ p l e s m below meth c G cI cQ ad A b 231 i [] M := by
  refine lj_a1 C dL_law_231 rfl ?_
  refine lj_gx (as := []) C dL_law_232 rfl lkL_18 rfl rfl rfl rfl (by decide) (gx_county (d := 0) ) hx hk (fun M1 h1 s1 => ?_)
  refine lj_a2 C dL_law_235 rfl ?_
  refine lj_gm (as := []) C dL_law_236 rfl lkL_22 rfl rfl rfl rfl (by decide) (gm_county (d := 0) ) (hm.same s1) hk (fun M2 h2 s2 => ?_)
  refine lj_eq C dL_law_239 (by decide) ?_
  exact next M2 _ (h1.same s2) h2 (k_county hk)
theorem lc_2 (C : LC p s m meth c G cI cQ ad A b L xs) (hL : L ≤ 3584) (hi : i + 6 < L) (hx : zIx M z) (hm : zIm M z) (hk : zSk z) (next : ∀ M' z', zIx M' z' → zIm M' z' → zSk z' → LJ p l e s m below meth c G cI cQ ad A b 1382 i [] M') : LJ p l e s m below meth c G cI cQ ad A b 244 i [] M := by
  refine lj_a1 C dL_law_244 rfl ?_
  refine lj_arg (j := 1) C hL (by omega) dL_law_245 dL_law_246 dL_law_247 dL_law_248 dL_law_249 (by decide) rfl ?_
  refine lj_arg (j := 2) C hL (by omega) dL_law_250 dL_law_251 dL_law_252 dL_law_253 dL_law_254 (by decide) rfl ?_
  refine lj_gx (as := [.int (xs (i + 1)), .int (xs (i + 2))]) C dL_law_255 rfl lkL_23 rfl rfl rfl rfl (by decide) (gx_person (d := 0) (xs (i + 1)) (xs (i + 2))) hx hk (fun M1 h1 s1 => ?_)
  refine lj_a2 C dL_law_258 rfl ?_
  refine lj_arg (j := 1) C hL (by omega) dL_law_259 dL_law_260 dL_law_261 dL_law_262 dL_law_263 (by decide) rfl ?_
  refine lj_arg (j := 2) C hL (by omega) dL_law_264 dL_law_265 dL_law_266 dL_law_267 dL_law_268 (by decide) rfl ?_
  refine lj_gm (as := [.int (xs (i + 1)), .int (xs (i + 2))]) C dL_law_269 rfl lkL_27 rfl rfl rfl rfl (by decide) (gm_person (d := 0) (xs (i + 1)) (xs (i + 2))) (hm.same s1) hk (fun M2 h2 s2 => ?_)
  refine lj_eq C dL_law_272 (by decide) ?_
  exact next M2 _ (h1.same s2) h2 (by unfold sp_person; exact k_same hk)
theorem lc_3 (C : LC p s m meth c G cI cQ ad A b L xs) (hL : L ≤ 3584) (hi : i + 6 < L) (hx : zIx M z) (hm : zIm M z) (hk : zSk z) (next : ∀ M' z', zIx M' z' → zIm M' z' → zSk z' → LJ p l e s m below meth c G cI cQ ad A b 1382 i [] M') : LJ p l e s m below meth c G cI cQ ad A b 277 i [] M := by
  refine lj_a1 C dL_law_277 rfl ?_
  refine lj_arg (j := 1) C hL (by omega) dL_law_278 dL_law_279 dL_law_280 dL_law_281 dL_law_282 (by decide) rfl ?_
  refine lj_arg (j := 2) C hL (by omega) dL_law_283 dL_law_284 dL_law_285 dL_law_286 dL_law_287 (by decide) rfl ?_
  refine lj_arg (j := 3) C hL (by omega) dL_law_288 dL_law_289 dL_law_290 dL_law_291 dL_law_292 (by decide) rfl ?_
  refine lj_gx (as := [.int (xs (i + 1)), .int (xs (i + 2)), .int (xs (i + 3))]) C dL_law_293 rfl lkL_28 rfl rfl rfl rfl (by decide) (gx_tie (d := 0) (xs (i + 1)) (xs (i + 2)) (xs (i + 3))) hx hk (fun M1 h1 s1 => ?_)
  refine lj_a2 C dL_law_296 rfl ?_
  refine lj_arg (j := 1) C hL (by omega) dL_law_297 dL_law_298 dL_law_299 dL_law_300 dL_law_301 (by decide) rfl ?_
  refine lj_arg (j := 2) C hL (by omega) dL_law_302 dL_law_303 dL_law_304 dL_law_305 dL_law_306 (by decide) rfl ?_
  refine lj_arg (j := 3) C hL (by omega) dL_law_307 dL_law_308 dL_law_309 dL_law_310 dL_law_311 (by decide) rfl ?_
  refine lj_gm (as := [.int (xs (i + 1)), .int (xs (i + 2)), .int (xs (i + 3))]) C dL_law_312 rfl lkL_32 rfl rfl rfl rfl (by decide) (gm_tie (d := 0) (xs (i + 1)) (xs (i + 2)) (xs (i + 3))) (hm.same s1) hk (fun M2 h2 s2 => ?_)
  refine lj_eq C dL_law_315 (by decide) ?_
  exact next M2 _ (h1.same s2) h2 (by unfold sp_tie; exact k_same hk)
theorem lc_4 (C : LC p s m meth c G cI cQ ad A b L xs) (hL : L ≤ 3584) (hi : i + 6 < L) (hx : zIx M z) (hm : zIm M z) (hk : zSk z) (next : ∀ M' z', zIx M' z' → zIm M' z' → zSk z' → LJ p l e s m below meth c G cI cQ ad A b 1382 i [] M') : LJ p l e s m below meth c G cI cQ ad A b 320 i [] M := by
  refine lj_a1 C dL_law_320 rfl ?_
  refine lj_arg (j := 1) C hL (by omega) dL_law_321 dL_law_322 dL_law_323 dL_law_324 dL_law_325 (by decide) rfl ?_
  refine lj_arg (j := 2) C hL (by omega) dL_law_326 dL_law_327 dL_law_328 dL_law_329 dL_law_330 (by decide) rfl ?_
  refine lj_gx (as := [.int (xs (i + 1)), .int (xs (i + 2))]) C dL_law_331 rfl lkL_33 rfl rfl rfl rfl (by decide) (gx_signs (d := 0) (xs (i + 1)) (xs (i + 2))) hx hk (fun M1 h1 s1 => ?_)
  refine lj_a2 C dL_law_334 rfl ?_
  refine lj_arg (j := 1) C hL (by omega) dL_law_335 dL_law_336 dL_law_337 dL_law_338 dL_law_339 (by decide) rfl ?_
  refine lj_arg (j := 2) C hL (by omega) dL_law_340 dL_law_341 dL_law_342 dL_law_343 dL_law_344 (by decide) rfl ?_
  refine lj_gm (as := [.int (xs (i + 1)), .int (xs (i + 2))]) C dL_law_345 rfl lkL_36 rfl rfl rfl rfl (by decide) (gm_signs (d := 0) (xs (i + 1)) (xs (i + 2))) (hm.same s1) hk (fun M2 h2 s2 => ?_)
  refine lj_eq C dL_law_348 (by decide) ?_
  exact next M2 _ (h1.same s2) h2 (k_signs (xs (i + 1)) (xs (i + 2)) hk)
theorem lc_5 (C : LC p s m meth c G cI cQ ad A b L xs) (hL : L ≤ 3584) (hi : i + 6 < L) (hx : zIx M z) (hm : zIm M z) (hk : zSk z) (next : ∀ M' z', zIx M' z' → zIm M' z' → zSk z' → LJ p l e s m below meth c G cI cQ ad A b 1382 i [] M') : LJ p l e s m below meth c G cI cQ ad A b 353 i [] M := by
  refine lj_a1 C dL_law_353 rfl ?_
  refine lj_arg (j := 1) C hL (by omega) dL_law_354 dL_law_355 dL_law_356 dL_law_357 dL_law_358 (by decide) rfl ?_
  refine lj_arg (j := 2) C hL (by omega) dL_law_359 dL_law_360 dL_law_361 dL_law_362 dL_law_363 (by decide) rfl ?_
  refine lj_gx (as := [.int (xs (i + 1)), .int (xs (i + 2))]) C dL_law_364 rfl lkL_37 rfl rfl rfl rfl (by decide) (gx_feuds (d := 0) (xs (i + 1)) (xs (i + 2))) hx hk (fun M1 h1 s1 => ?_)
  refine lj_a2 C dL_law_367 rfl ?_
  refine lj_arg (j := 1) C hL (by omega) dL_law_368 dL_law_369 dL_law_370 dL_law_371 dL_law_372 (by decide) rfl ?_
  refine lj_arg (j := 2) C hL (by omega) dL_law_373 dL_law_374 dL_law_375 dL_law_376 dL_law_377 (by decide) rfl ?_
  refine lj_gm (as := [.int (xs (i + 1)), .int (xs (i + 2))]) C dL_law_378 rfl lkL_40 rfl rfl rfl rfl (by decide) (gm_feuds (d := 0) (xs (i + 1)) (xs (i + 2))) (hm.same s1) hk (fun M2 h2 s2 => ?_)
  refine lj_eq C dL_law_381 (by decide) ?_
  exact next M2 _ (h1.same s2) h2 (k_feuds (xs (i + 1)) (xs (i + 2)) hk)
theorem lc_6 (C : LC p s m meth c G cI cQ ad A b L xs) (hL : L ≤ 3584) (hi : i + 6 < L) (hx : zIx M z) (hm : zIm M z) (hk : zSk z) (next : ∀ M' z', zIx M' z' → zIm M' z' → zSk z' → LJ p l e s m below meth c G cI cQ ad A b 1382 i [] M') : LJ p l e s m below meth c G cI cQ ad A b 386 i [] M := by
  refine lj_a1 C dL_law_386 rfl ?_
  refine lj_arg (j := 1) C hL (by omega) dL_law_387 dL_law_388 dL_law_389 dL_law_390 dL_law_391 (by decide) rfl ?_
  refine lj_arg (j := 2) C hL (by omega) dL_law_392 dL_law_393 dL_law_394 dL_law_395 dL_law_396 (by decide) rfl ?_
  refine lj_gx (as := [.int (xs (i + 1)), .int (xs (i + 2))]) C dL_law_397 rfl lkL_41 rfl rfl rfl rfl (by decide) (gx_gets (d := 0) (xs (i + 1)) (xs (i + 2))) hx hk (fun M1 h1 s1 => ?_)
  refine lj_a2 C dL_law_400 rfl ?_
  refine lj_arg (j := 1) C hL (by omega) dL_law_401 dL_law_402 dL_law_403 dL_law_404 dL_law_405 (by decide) rfl ?_
  refine lj_arg (j := 2) C hL (by omega) dL_law_406 dL_law_407 dL_law_408 dL_law_409 dL_law_410 (by decide) rfl ?_
  refine lj_gm (as := [.int (xs (i + 1)), .int (xs (i + 2))]) C dL_law_411 rfl lkL_44 rfl rfl rfl rfl (by decide) (gm_gets (d := 0) (xs (i + 1)) (xs (i + 2))) (hm.same s1) hk (fun M2 h2 s2 => ?_)
  refine lj_eq C dL_law_414 (by decide) ?_
  exact next M2 _ (h1.same s2) h2 (k_gets (xs (i + 1)) (xs (i + 2)) hk)
theorem lc_7 (C : LC p s m meth c G cI cQ ad A b L xs) (hL : L ≤ 3584) (hi : i + 6 < L) (hx : zIx M z) (hm : zIm M z) (hk : zSk z) (next : ∀ M' z', zIx M' z' → zIm M' z' → zSk z' → LJ p l e s m below meth c G cI cQ ad A b 1382 i [] M') : LJ p l e s m below meth c G cI cQ ad A b 419 i [] M := by
  refine lj_a1 C dL_law_419 rfl ?_
  refine lj_arg (j := 1) C hL (by omega) dL_law_420 dL_law_421 dL_law_422 dL_law_423 dL_law_424 (by decide) rfl ?_
  refine lj_arg (j := 2) C hL (by omega) dL_law_425 dL_law_426 dL_law_427 dL_law_428 dL_law_429 (by decide) rfl ?_
  refine lj_arg (j := 3) C hL (by omega) dL_law_430 dL_law_431 dL_law_432 dL_law_433 dL_law_434 (by decide) rfl ?_
  refine lj_gx (as := [.int (xs (i + 1)), .int (xs (i + 2)), .int (xs (i + 3))]) C dL_law_435 rfl lkL_45 rfl rfl rfl rfl (by decide) (gx_turn (d := 0) (xs (i + 1)) (xs (i + 2)) (xs (i + 3))) hx hk (fun M1 h1 s1 => ?_)
  refine lj_a2 C dL_law_438 rfl ?_
  refine lj_arg (j := 1) C hL (by omega) dL_law_439 dL_law_440 dL_law_441 dL_law_442 dL_law_443 (by decide) rfl ?_
  refine lj_arg (j := 2) C hL (by omega) dL_law_444 dL_law_445 dL_law_446 dL_law_447 dL_law_448 (by decide) rfl ?_
  refine lj_arg (j := 3) C hL (by omega) dL_law_449 dL_law_450 dL_law_451 dL_law_452 dL_law_453 (by decide) rfl ?_
  refine lj_gm (as := [.int (xs (i + 1)), .int (xs (i + 2)), .int (xs (i + 3))]) C dL_law_454 rfl lkL_48 rfl rfl rfl rfl (by decide) (gm_turn (d := 0) (xs (i + 1)) (xs (i + 2)) (xs (i + 3))) (hm.same s1) hk (fun M2 h2 s2 => ?_)
  refine lj_eq C dL_law_457 (by decide) ?_
  exact next M2 _ (h1.same s2) h2 (k_turn (xs (i + 1)) (xs (i + 2)) (xs (i + 3)) hk)
theorem lc_8 (C : LC p s m meth c G cI cQ ad A b L xs) (hL : L ≤ 3584) (hi : i + 6 < L) (hx : zIx M z) (hm : zIm M z) (hk : zSk z) (next : ∀ M' z', zIx M' z' → zIm M' z' → zSk z' → LJ p l e s m below meth c G cI cQ ad A b 1382 i [] M') : LJ p l e s m below meth c G cI cQ ad A b 462 i [] M := by
  refine lj_a1 C dL_law_462 rfl ?_
  refine lj_arg (j := 1) C hL (by omega) dL_law_463 dL_law_464 dL_law_465 dL_law_466 dL_law_467 (by decide) rfl ?_
  refine lj_gx (as := [.int (xs (i + 1))]) C dL_law_468 rfl lkL_49 rfl rfl rfl rfl (by decide) (gx_years (d := 0) (xs (i + 1))) hx hk (fun M1 h1 s1 => ?_)
  refine lj_a2 C dL_law_471 rfl ?_
  refine lj_arg (j := 1) C hL (by omega) dL_law_472 dL_law_473 dL_law_474 dL_law_475 dL_law_476 (by decide) rfl ?_
  refine lj_gm (as := [.int (xs (i + 1))]) C dL_law_477 rfl lkL_52 rfl rfl rfl rfl (by decide) (gm_years (d := 0) (xs (i + 1))) (hm.same s1) hk (fun M2 h2 s2 => ?_)
  refine lj_eq C dL_law_480 (by decide) ?_
  exact next M2 _ (h1.same s2) h2 (k_years (xs (i + 1)) hk)
theorem lc_9 (C : LC p s m meth c G cI cQ ad A b L xs) (hL : L ≤ 3584) (hi : i + 6 < L) (hx : zIx M z) (hm : zIm M z) (hk : zSk z) (next : ∀ M' z', zIx M' z' → zIm M' z' → zSk z' → LJ p l e s m below meth c G cI cQ ad A b 1382 i [] M') : LJ p l e s m below meth c G cI cQ ad A b 485 i [] M := by
  refine lj_a1 C dL_law_485 rfl ?_
  refine lj_arg (j := 1) C hL (by omega) dL_law_486 dL_law_487 dL_law_488 dL_law_489 dL_law_490 (by decide) rfl ?_
  refine lj_arg (j := 2) C hL (by omega) dL_law_491 dL_law_492 dL_law_493 dL_law_494 dL_law_495 (by decide) rfl ?_
  refine lj_arg (j := 3) C hL (by omega) dL_law_496 dL_law_497 dL_law_498 dL_law_499 dL_law_500 (by decide) rfl ?_
  refine lj_gx (as := [.int (xs (i + 1)), .int (xs (i + 2)), .int (xs (i + 3))]) C dL_law_501 rfl lkL_53 rfl rfl rfl rfl (by decide) (gx_hasThen (d := 0) (xs (i + 1)) (xs (i + 2)) (xs (i + 3))) hx hk (fun M1 h1 s1 => ?_)
  refine lj_a2 C dL_law_504 rfl ?_
  refine lj_arg (j := 1) C hL (by omega) dL_law_505 dL_law_506 dL_law_507 dL_law_508 dL_law_509 (by decide) rfl ?_
  refine lj_arg (j := 2) C hL (by omega) dL_law_510 dL_law_511 dL_law_512 dL_law_513 dL_law_514 (by decide) rfl ?_
  refine lj_arg (j := 3) C hL (by omega) dL_law_515 dL_law_516 dL_law_517 dL_law_518 dL_law_519 (by decide) rfl ?_
  refine lj_gm (as := [.int (xs (i + 1)), .int (xs (i + 2)), .int (xs (i + 3))]) C dL_law_520 rfl lkL_56 rfl rfl rfl rfl (by decide) (gm_hasThen (d := 0) (xs (i + 1)) (xs (i + 2)) (xs (i + 3))) (hm.same s1) hk (fun M2 h2 s2 => ?_)
  refine lj_eq C dL_law_523 (by decide) ?_
  exact next M2 _ (h1.same s2) h2 (by unfold sp_hasThen; exact k_same hk)
theorem lc_10 (C : LC p s m meth c G cI cQ ad A b L xs) (hL : L ≤ 3584) (hi : i + 6 < L) (hx : zIx M z) (hm : zIm M z) (hk : zSk z) (next : ∀ M' z', zIx M' z' → zIm M' z' → zSk z' → LJ p l e s m below meth c G cI cQ ad A b 1382 i [] M') : LJ p l e s m below meth c G cI cQ ad A b 528 i [] M := by
  refine lj_a1 C dL_law_528 rfl ?_
  refine lj_arg (j := 1) C hL (by omega) dL_law_529 dL_law_530 dL_law_531 dL_law_532 dL_law_533 (by decide) rfl ?_
  refine lj_arg (j := 2) C hL (by omega) dL_law_534 dL_law_535 dL_law_536 dL_law_537 dL_law_538 (by decide) rfl ?_
  refine lj_arg (j := 3) C hL (by omega) dL_law_539 dL_law_540 dL_law_541 dL_law_542 dL_law_543 (by decide) rfl ?_
  refine lj_gx (as := [.int (xs (i + 1)), .int (xs (i + 2)), .int (xs (i + 3))]) C dL_law_544 rfl lkL_57 rfl rfl rfl rfl (by decide) (gx_areKin (d := 0) (xs (i + 1)) (xs (i + 2)) (xs (i + 3))) hx hk (fun M1 h1 s1 => ?_)
  refine lj_a2 C dL_law_547 rfl ?_
  refine lj_arg (j := 1) C hL (by omega) dL_law_548 dL_law_549 dL_law_550 dL_law_551 dL_law_552 (by decide) rfl ?_
  refine lj_arg (j := 2) C hL (by omega) dL_law_553 dL_law_554 dL_law_555 dL_law_556 dL_law_557 (by decide) rfl ?_
  refine lj_arg (j := 3) C hL (by omega) dL_law_558 dL_law_559 dL_law_560 dL_law_561 dL_law_562 (by decide) rfl ?_
  refine lj_gm (as := [.int (xs (i + 1)), .int (xs (i + 2)), .int (xs (i + 3))]) C dL_law_563 rfl lkL_60 rfl rfl rfl rfl (by decide) (gm_areKin (d := 0) (xs (i + 1)) (xs (i + 2)) (xs (i + 3))) (hm.same s1) hk (fun M2 h2 s2 => ?_)
  refine lj_eq C dL_law_566 (by decide) ?_
  exact next M2 _ (h1.same s2) h2 (by unfold sp_areKin; exact k_same hk)
theorem lc_11 (C : LC p s m meth c G cI cQ ad A b L xs) (hL : L ≤ 3584) (hi : i + 6 < L) (hx : zIx M z) (hm : zIm M z) (hk : zSk z) (next : ∀ M' z', zIx M' z' → zIm M' z' → zSk z' → LJ p l e s m below meth c G cI cQ ad A b 1382 i [] M') : LJ p l e s m below meth c G cI cQ ad A b 571 i [] M := by
  refine lj_a1 C dL_law_571 rfl ?_
  refine lj_arg (j := 1) C hL (by omega) dL_law_572 dL_law_573 dL_law_574 dL_law_575 dL_law_576 (by decide) rfl ?_
  refine lj_gx (as := [.int (xs (i + 1))]) C dL_law_577 rfl lkL_61 rfl rfl rfl rfl (by decide) (gx_allMoney (d := 0) (xs (i + 1))) hx hk (fun M1 h1 s1 => ?_)
  refine lj_a2 C dL_law_580 rfl ?_
  refine lj_arg (j := 1) C hL (by omega) dL_law_581 dL_law_582 dL_law_583 dL_law_584 dL_law_585 (by decide) rfl ?_
  refine lj_gm (as := [.int (xs (i + 1))]) C dL_law_586 rfl lkL_64 rfl rfl rfl rfl (by decide) (gm_allMoney (d := 0) (xs (i + 1))) (hm.same s1) hk (fun M2 h2 s2 => ?_)
  refine lj_eq C dL_law_589 (by decide) ?_
  exact next M2 _ (h1.same s2) h2 (by unfold sp_allMoney; exact k_same hk)
theorem lc_12 (C : LC p s m meth c G cI cQ ad A b L xs) (hL : L ≤ 3584) (hi : i + 6 < L) (hx : zIx M z) (hm : zIm M z) (hk : zSk z) (next : ∀ M' z', zIx M' z' → zIm M' z' → zSk z' → LJ p l e s m below meth c G cI cQ ad A b 1382 i [] M') : LJ p l e s m below meth c G cI cQ ad A b 594 i [] M := by
  refine lj_a1 C dL_law_594 rfl ?_
  refine lj_arg (j := 1) C hL (by omega) dL_law_595 dL_law_596 dL_law_597 dL_law_598 dL_law_599 (by decide) rfl ?_
  refine lj_gx (as := [.int (xs (i + 1))]) C dL_law_600 rfl lkL_65 rfl rfl rfl rfl (by decide) (gx_ruined (d := 0) (xs (i + 1))) hx hk (fun M1 h1 s1 => ?_)
  refine lj_a2 C dL_law_603 rfl ?_
  refine lj_arg (j := 1) C hL (by omega) dL_law_604 dL_law_605 dL_law_606 dL_law_607 dL_law_608 (by decide) rfl ?_
  refine lj_gm (as := [.int (xs (i + 1))]) C dL_law_609 rfl lkL_68 rfl rfl rfl rfl (by decide) (gm_ruined (d := 0) (xs (i + 1))) (hm.same s1) hk (fun M2 h2 s2 => ?_)
  refine lj_eq C dL_law_612 (by decide) ?_
  exact next M2 _ (h1.same s2) h2 (by unfold sp_ruined; exact k_same hk)
theorem lc_13 (C : LC p s m meth c G cI cQ ad A b L xs) (hL : L ≤ 3584) (hi : i + 6 < L) (hx : zIx M z) (hm : zIm M z) (hk : zSk z) (next : ∀ M' z', zIx M' z' → zIm M' z' → zSk z' → LJ p l e s m below meth c G cI cQ ad A b 1382 i [] M') : LJ p l e s m below meth c G cI cQ ad A b 617 i [] M := by
  refine lj_a1 C dL_law_617 rfl ?_
  refine lj_arg (j := 1) C hL (by omega) dL_law_618 dL_law_619 dL_law_620 dL_law_621 dL_law_622 (by decide) rfl ?_
  refine lj_gx (as := [.int (xs (i + 1))]) C dL_law_623 rfl lkL_69 rfl rfl rfl rfl (by decide) (gx_first (d := 0) (xs (i + 1))) hx hk (fun M1 h1 s1 => ?_)
  refine lj_a2 C dL_law_626 rfl ?_
  refine lj_arg (j := 1) C hL (by omega) dL_law_627 dL_law_628 dL_law_629 dL_law_630 dL_law_631 (by decide) rfl ?_
  refine lj_gm (as := [.int (xs (i + 1))]) C dL_law_632 rfl lkL_72 rfl rfl rfl rfl (by decide) (gm_first (d := 0) (xs (i + 1))) (hm.same s1) hk (fun M2 h2 s2 => ?_)
  refine lj_eq C dL_law_635 (by decide) ?_
  exact next M2 _ (h1.same s2) h2 (by unfold sp_first; exact k_same hk)
theorem lc_14 (C : LC p s m meth c G cI cQ ad A b L xs) (hL : L ≤ 3584) (hi : i + 6 < L) (hx : zIx M z) (hm : zIm M z) (hk : zSk z) (next : ∀ M' z', zIx M' z' → zIm M' z' → zSk z' → LJ p l e s m below meth c G cI cQ ad A b 1382 i [] M') : LJ p l e s m below meth c G cI cQ ad A b 640 i [] M := by
  refine lj_a1 C dL_law_640 rfl ?_
  refine lj_arg (j := 1) C hL (by omega) dL_law_641 dL_law_642 dL_law_643 dL_law_644 dL_law_645 (by decide) rfl ?_
  refine lj_gx (as := [.int (xs (i + 1))]) C dL_law_646 rfl lkL_73 rfl rfl rfl rfl (by decide) (gx_richest (d := 0) (xs (i + 1))) hx hk (fun M1 h1 s1 => ?_)
  refine lj_a2 C dL_law_649 rfl ?_
  refine lj_arg (j := 1) C hL (by omega) dL_law_650 dL_law_651 dL_law_652 dL_law_653 dL_law_654 (by decide) rfl ?_
  refine lj_gm (as := [.int (xs (i + 1))]) C dL_law_655 rfl lkL_76 rfl rfl rfl rfl (by decide) (gm_richest (d := 0) (xs (i + 1))) (hm.same s1) hk (fun M2 h2 s2 => ?_)
  refine lj_eq C dL_law_658 (by decide) ?_
  exact next M2 _ (h1.same s2) h2 (by unfold sp_richest; exact k_same hk)
theorem lc_15 (C : LC p s m meth c G cI cQ ad A b L xs) (hL : L ≤ 3584) (hi : i + 6 < L) (hx : zIx M z) (hm : zIm M z) (hk : zSk z) (next : ∀ M' z', zIx M' z' → zIm M' z' → zSk z' → LJ p l e s m below meth c G cI cQ ad A b 1382 i [] M') : LJ p l e s m below meth c G cI cQ ad A b 663 i [] M := by
  refine lj_a1 C dL_law_663 rfl ?_
  refine lj_arg (j := 1) C hL (by omega) dL_law_664 dL_law_665 dL_law_666 dL_law_667 dL_law_668 (by decide) rfl ?_
  refine lj_arg (j := 2) C hL (by omega) dL_law_669 dL_law_670 dL_law_671 dL_law_672 dL_law_673 (by decide) rfl ?_
  refine lj_gx (as := [.int (xs (i + 1)), .int (xs (i + 2))]) C dL_law_674 rfl lkL_77 rfl rfl rfl rfl (by decide) (gx_kin (d := 0) (xs (i + 1)) (xs (i + 2))) hx hk (fun M1 h1 s1 => ?_)
  refine lj_a2 C dL_law_677 rfl ?_
  refine lj_arg (j := 1) C hL (by omega) dL_law_678 dL_law_679 dL_law_680 dL_law_681 dL_law_682 (by decide) rfl ?_
  refine lj_arg (j := 2) C hL (by omega) dL_law_683 dL_law_684 dL_law_685 dL_law_686 dL_law_687 (by decide) rfl ?_
  refine lj_gm (as := [.int (xs (i + 1)), .int (xs (i + 2))]) C dL_law_688 rfl lkL_80 rfl rfl rfl rfl (by decide) (gm_kin (d := 0) (xs (i + 1)) (xs (i + 2))) (hm.same s1) hk (fun M2 h2 s2 => ?_)
  refine lj_eq C dL_law_691 (by decide) ?_
  exact next M2 _ (h1.same s2) h2 (by unfold sp_kin; exact k_same hk)
theorem lc_16 (C : LC p s m meth c G cI cQ ad A b L xs) (hL : L ≤ 3584) (hi : i + 6 < L) (hx : zIx M z) (hm : zIm M z) (hk : zSk z) (next : ∀ M' z', zIx M' z' → zIm M' z' → zSk z' → LJ p l e s m below meth c G cI cQ ad A b 1382 i [] M') : LJ p l e s m below meth c G cI cQ ad A b 696 i [] M := by
  refine lj_a1 C dL_law_696 rfl ?_
  refine lj_arg (j := 1) C hL (by omega) dL_law_697 dL_law_698 dL_law_699 dL_law_700 dL_law_701 (by decide) rfl ?_
  refine lj_arg (j := 2) C hL (by omega) dL_law_702 dL_law_703 dL_law_704 dL_law_705 dL_law_706 (by decide) rfl ?_
  refine lj_gx (as := [.int (xs (i + 1)), .int (xs (i + 2))]) C dL_law_707 rfl lkL_81 rfl rfl rfl rfl (by decide) (gx_removed (d := 0) (xs (i + 1)) (xs (i + 2))) hx hk (fun M1 h1 s1 => ?_)
  refine lj_a2 C dL_law_710 rfl ?_
  refine lj_arg (j := 1) C hL (by omega) dL_law_711 dL_law_712 dL_law_713 dL_law_714 dL_law_715 (by decide) rfl ?_
  refine lj_arg (j := 2) C hL (by omega) dL_law_716 dL_law_717 dL_law_718 dL_law_719 dL_law_720 (by decide) rfl ?_
  refine lj_gm (as := [.int (xs (i + 1)), .int (xs (i + 2))]) C dL_law_721 rfl lkL_84 rfl rfl rfl rfl (by decide) (gm_removed (d := 0) (xs (i + 1)) (xs (i + 2))) (hm.same s1) hk (fun M2 h2 s2 => ?_)
  refine lj_eq C dL_law_724 (by decide) ?_
  exact next M2 _ (h1.same s2) h2 (by unfold sp_removed; exact k_same hk)
theorem lc_17 (C : LC p s m meth c G cI cQ ad A b L xs) (hL : L ≤ 3584) (hi : i + 6 < L) (hx : zIx M z) (hm : zIm M z) (hk : zSk z) (next : ∀ M' z', zIx M' z' → zIm M' z' → zSk z' → LJ p l e s m below meth c G cI cQ ad A b 1382 i [] M') : LJ p l e s m below meth c G cI cQ ad A b 729 i [] M := by
  refine lj_a1 C dL_law_729 rfl ?_
  refine lj_arg (j := 1) C hL (by omega) dL_law_730 dL_law_731 dL_law_732 dL_law_733 dL_law_734 (by decide) rfl ?_
  refine lj_gx (as := [.int (xs (i + 1))]) C dL_law_735 rfl lkL_85 rfl rfl rfl rfl (by decide) (gx_farthest (d := 0) (xs (i + 1))) hx hk (fun M1 h1 s1 => ?_)
  refine lj_a2 C dL_law_738 rfl ?_
  refine lj_arg (j := 1) C hL (by omega) dL_law_739 dL_law_740 dL_law_741 dL_law_742 dL_law_743 (by decide) rfl ?_
  refine lj_gm (as := [.int (xs (i + 1))]) C dL_law_744 rfl lkL_88 rfl rfl rfl rfl (by decide) (gm_farthest (d := 0) (xs (i + 1))) (hm.same s1) hk (fun M2 h2 s2 => ?_)
  refine lj_eq C dL_law_747 (by decide) ?_
  exact next M2 _ (h1.same s2) h2 (by unfold sp_farthest; exact k_same hk)
theorem lc_18 (C : LC p s m meth c G cI cQ ad A b L xs) (hL : L ≤ 3584) (hi : i + 6 < L) (hx : zIx M z) (hm : zIm M z) (hk : zSk z) (next : ∀ M' z', zIx M' z' → zIm M' z' → zSk z' → LJ p l e s m below meth c G cI cQ ad A b 1382 i [] M') : LJ p l e s m below meth c G cI cQ ad A b 752 i [] M := by
  refine lj_a1 C dL_law_752 rfl ?_
  refine lj_arg (j := 1) C hL (by omega) dL_law_753 dL_law_754 dL_law_755 dL_law_756 dL_law_757 (by decide) rfl ?_
  refine lj_gx (as := [.int (xs (i + 1))]) C dL_law_758 rfl lkL_89 rfl rfl rfl rfl (by decide) (gx_groups (d := 0) (xs (i + 1))) hx hk (fun M1 h1 s1 => ?_)
  refine lj_a2 C dL_law_761 rfl ?_
  refine lj_arg (j := 1) C hL (by omega) dL_law_762 dL_law_763 dL_law_764 dL_law_765 dL_law_766 (by decide) rfl ?_
  refine lj_gm (as := [.int (xs (i + 1))]) C dL_law_767 rfl lkL_92 rfl rfl rfl rfl (by decide) (gm_groups (d := 0) (xs (i + 1))) (hm.same s1) hk (fun M2 h2 s2 => ?_)
  refine lj_eq C dL_law_770 (by decide) ?_
  exact next M2 _ (h1.same s2) h2 (by unfold sp_groups; exact k_same hk)
theorem lc_19 (C : LC p s m meth c G cI cQ ad A b L xs) (hL : L ≤ 3584) (hi : i + 6 < L) (hx : zIx M z) (hm : zIm M z) (hk : zSk z) (next : ∀ M' z', zIx M' z' → zIm M' z' → zSk z' → LJ p l e s m below meth c G cI cQ ad A b 1382 i [] M') : LJ p l e s m below meth c G cI cQ ad A b 775 i [] M := by
  refine lj_a1 C dL_law_775 rfl ?_
  refine lj_arg (j := 1) C hL (by omega) dL_law_776 dL_law_777 dL_law_778 dL_law_779 dL_law_780 (by decide) rfl ?_
  refine lj_gx (as := [.int (xs (i + 1))]) C dL_law_781 rfl lkL_93 rfl rfl rfl rfl (by decide) (gx_clan (d := 0) (xs (i + 1))) hx hk (fun M1 h1 s1 => ?_)
  refine lj_a2 C dL_law_784 rfl ?_
  refine lj_arg (j := 1) C hL (by omega) dL_law_785 dL_law_786 dL_law_787 dL_law_788 dL_law_789 (by decide) rfl ?_
  refine lj_gm (as := [.int (xs (i + 1))]) C dL_law_790 rfl lkL_96 rfl rfl rfl rfl (by decide) (gm_clan (d := 0) (xs (i + 1))) (hm.same s1) hk (fun M2 h2 s2 => ?_)
  refine lj_eq C dL_law_793 (by decide) ?_
  exact next M2 _ (h1.same s2) h2 (by unfold sp_clan; exact k_same hk)
theorem lc_20 (C : LC p s m meth c G cI cQ ad A b L xs) (hL : L ≤ 3584) (hi : i + 6 < L) (hx : zIx M z) (hm : zIm M z) (hk : zSk z) (next : ∀ M' z', zIx M' z' → zIm M' z' → zSk z' → LJ p l e s m below meth c G cI cQ ad A b 1382 i [] M') : LJ p l e s m below meth c G cI cQ ad A b 798 i [] M := by
  refine lj_a1 C dL_law_798 rfl ?_
  refine lj_arg (j := 1) C hL (by omega) dL_law_799 dL_law_800 dL_law_801 dL_law_802 dL_law_803 (by decide) rfl ?_
  refine lj_arg (j := 2) C hL (by omega) dL_law_804 dL_law_805 dL_law_806 dL_law_807 dL_law_808 (by decide) rfl ?_
  refine lj_gx (as := [.int (xs (i + 1)), .int (xs (i + 2))]) C dL_law_809 rfl lkL_97 rfl rfl rfl rfl (by decide) (gx_bestSign (d := 0) (xs (i + 1)) (xs (i + 2))) hx hk (fun M1 h1 s1 => ?_)
  refine lj_a2 C dL_law_812 rfl ?_
  refine lj_arg (j := 1) C hL (by omega) dL_law_813 dL_law_814 dL_law_815 dL_law_816 dL_law_817 (by decide) rfl ?_
  refine lj_arg (j := 2) C hL (by omega) dL_law_818 dL_law_819 dL_law_820 dL_law_821 dL_law_822 (by decide) rfl ?_
  refine lj_gm (as := [.int (xs (i + 1)), .int (xs (i + 2))]) C dL_law_823 rfl lkL_100 rfl rfl rfl rfl (by decide) (gm_bestSign (d := 0) (xs (i + 1)) (xs (i + 2))) (hm.same s1) hk (fun M2 h2 s2 => ?_)
  refine lj_eq C dL_law_826 (by decide) ?_
  exact next M2 _ (h1.same s2) h2 (by unfold sp_best; exact k_same hk)
theorem lc_21 (C : LC p s m meth c G cI cQ ad A b L xs) (hL : L ≤ 3584) (hi : i + 6 < L) (hx : zIx M z) (hm : zIm M z) (hk : zSk z) (next : ∀ M' z', zIx M' z' → zIm M' z' → zSk z' → LJ p l e s m below meth c G cI cQ ad A b 1382 i [] M') : LJ p l e s m below meth c G cI cQ ad A b 831 i [] M := by
  refine lj_a1 C dL_law_831 rfl ?_
  refine lj_arg (j := 1) C hL (by omega) dL_law_832 dL_law_833 dL_law_834 dL_law_835 dL_law_836 (by decide) rfl ?_
  refine lj_arg (j := 2) C hL (by omega) dL_law_837 dL_law_838 dL_law_839 dL_law_840 dL_law_841 (by decide) rfl ?_
  refine lj_gx (as := [.int (xs (i + 1)), .int (xs (i + 2))]) C dL_law_842 rfl lkL_101 rfl rfl rfl rfl (by decide) (gx_bestCut (d := 0) (xs (i + 1)) (xs (i + 2))) hx hk (fun M1 h1 s1 => ?_)
  refine lj_a2 C dL_law_845 rfl ?_
  refine lj_arg (j := 1) C hL (by omega) dL_law_846 dL_law_847 dL_law_848 dL_law_849 dL_law_850 (by decide) rfl ?_
  refine lj_arg (j := 2) C hL (by omega) dL_law_851 dL_law_852 dL_law_853 dL_law_854 dL_law_855 (by decide) rfl ?_
  refine lj_gm (as := [.int (xs (i + 1)), .int (xs (i + 2))]) C dL_law_856 rfl lkL_104 rfl rfl rfl rfl (by decide) (gm_bestCut (d := 0) (xs (i + 1)) (xs (i + 2))) (hm.same s1) hk (fun M2 h2 s2 => ?_)
  refine lj_eq C dL_law_859 (by decide) ?_
  exact next M2 _ (h1.same s2) h2 (by unfold sp_best; exact k_same hk)
theorem lc_22 (C : LC p s m meth c G cI cQ ad A b L xs) (hL : L ≤ 3584) (hi : i + 6 < L) (hx : zIx M z) (hm : zIm M z) (hk : zSk z) (next : ∀ M' z', zIx M' z' → zIm M' z' → zSk z' → LJ p l e s m below meth c G cI cQ ad A b 1382 i [] M') : LJ p l e s m below meth c G cI cQ ad A b 864 i [] M := by
  refine lj_a1 C dL_law_864 rfl ?_
  refine lj_arg (j := 1) C hL (by omega) dL_law_865 dL_law_866 dL_law_867 dL_law_868 dL_law_869 (by decide) rfl ?_
  refine lj_arg (j := 2) C hL (by omega) dL_law_870 dL_law_871 dL_law_872 dL_law_873 dL_law_874 (by decide) rfl ?_
  refine lj_arg (j := 3) C hL (by omega) dL_law_875 dL_law_876 dL_law_877 dL_law_878 dL_law_879 (by decide) rfl ?_
  refine lj_gx (as := [.int (xs (i + 1)), .int (xs (i + 2)), .int (xs (i + 3))]) C dL_law_880 rfl lkL_105 rfl rfl rfl rfl (by decide) (gx_feudCosts (d := 0) (xs (i + 1)) (xs (i + 2)) (xs (i + 3))) hx hk (fun M1 h1 s1 => ?_)
  refine lj_a2 C dL_law_883 rfl ?_
  refine lj_arg (j := 1) C hL (by omega) dL_law_884 dL_law_885 dL_law_886 dL_law_887 dL_law_888 (by decide) rfl ?_
  refine lj_arg (j := 2) C hL (by omega) dL_law_889 dL_law_890 dL_law_891 dL_law_892 dL_law_893 (by decide) rfl ?_
  refine lj_arg (j := 3) C hL (by omega) dL_law_894 dL_law_895 dL_law_896 dL_law_897 dL_law_898 (by decide) rfl ?_
  refine lj_gm (as := [.int (xs (i + 1)), .int (xs (i + 2)), .int (xs (i + 3))]) C dL_law_899 rfl lkL_108 rfl rfl rfl rfl (by decide) (gm_feudCosts (d := 0) (xs (i + 1)) (xs (i + 2)) (xs (i + 3))) (hm.same s1) hk (fun M2 h2 s2 => ?_)
  refine lj_eq C dL_law_902 (by decide) ?_
  exact next M2 _ (h1.same s2) h2 (by unfold sp_feudCosts; exact k_samel hk)
theorem lc_23 (C : LC p s m meth c G cI cQ ad A b L xs) (hL : L ≤ 3584) (hi : i + 6 < L) (hx : zIx M z) (hm : zIm M z) (hk : zSk z) (next : ∀ M' z', zIx M' z' → zIm M' z' → zSk z' → LJ p l e s m below meth c G cI cQ ad A b 1382 i [] M') : LJ p l e s m below meth c G cI cQ ad A b 907 i [] M := by
  refine lj_a1 C dL_law_907 rfl ?_
  refine lj_gx (as := []) C dL_law_908 rfl lkL_109 rfl rfl rfl rfl (by decide) (gx_peace (d := 0) ) hx hk (fun M1 h1 s1 => ?_)
  refine lj_a2 C dL_law_911 rfl ?_
  refine lj_gm (as := []) C dL_law_912 rfl lkL_112 rfl rfl rfl rfl (by decide) (gm_peace (d := 0) ) (hm.same s1) hk (fun M2 h2 s2 => ?_)
  refine lj_eq C dL_law_915 (by decide) ?_
  exact next M2 _ (h1.same s2) h2 (hk)
theorem lc_24 (C : LC p s m meth c G cI cQ ad A b L xs) (hL : L ≤ 3584) (hi : i + 6 < L) (hx : zIx M z) (hm : zIm M z) (hk : zSk z) (next : ∀ M' z', zIx M' z' → zIm M' z' → zSk z' → LJ p l e s m below meth c G cI cQ ad A b 1382 i [] M') : LJ p l e s m below meth c G cI cQ ad A b 920 i [] M := by
  refine lj_a1 C dL_law_920 rfl ?_
  refine lj_arg (j := 1) C hL (by omega) dL_law_921 dL_law_922 dL_law_923 dL_law_924 dL_law_925 (by decide) rfl ?_
  refine lj_arg (j := 2) C hL (by omega) dL_law_926 dL_law_927 dL_law_928 dL_law_929 dL_law_930 (by decide) rfl ?_
  refine lj_gx (as := [.int (xs (i + 1)), .int (xs (i + 2))]) C dL_law_931 rfl lkL_113 rfl rfl rfl rfl (by decide) (gx_will (d := 0) (xs (i + 1)) (xs (i + 2))) hx hk (fun M1 h1 s1 => ?_)
  refine lj_a2 C dL_law_934 rfl ?_
  refine lj_arg (j := 1) C hL (by omega) dL_law_935 dL_law_936 dL_law_937 dL_law_938 dL_law_939 (by decide) rfl ?_
  refine lj_arg (j := 2) C hL (by omega) dL_law_940 dL_law_941 dL_law_942 dL_law_943 dL_law_944 (by decide) rfl ?_
  refine lj_gm (as := [.int (xs (i + 1)), .int (xs (i + 2))]) C dL_law_945 rfl lkL_116 rfl rfl rfl rfl (by decide) (gm_will (d := 0) (xs (i + 1)) (xs (i + 2))) (hm.same s1) hk (fun M2 h2 s2 => ?_)
  refine lj_eq C dL_law_948 (by decide) ?_
  exact next M2 _ (h1.same s2) h2 (by unfold sp_will; exact k_same hk)
theorem lc_25 (C : LC p s m meth c G cI cQ ad A b L xs) (hL : L ≤ 3584) (hi : i + 6 < L) (hx : zIx M z) (hm : zIm M z) (hk : zSk z) (next : ∀ M' z', zIx M' z' → zIm M' z' → zSk z' → LJ p l e s m below meth c G cI cQ ad A b 1382 i [] M') : LJ p l e s m below meth c G cI cQ ad A b 953 i [] M := by
  refine lj_a1 C dL_law_953 rfl ?_
  refine lj_arg (j := 1) C hL (by omega) dL_law_954 dL_law_955 dL_law_956 dL_law_957 dL_law_958 (by decide) rfl ?_
  refine lj_gx (as := [.int (xs (i + 1))]) C dL_law_959 rfl lkL_117 rfl rfl rfl rfl (by decide) (gx_rooms (d := 0) (xs (i + 1))) hx hk (fun M1 h1 s1 => ?_)
  refine lj_a2 C dL_law_962 rfl ?_
  refine lj_arg (j := 1) C hL (by omega) dL_law_963 dL_law_964 dL_law_965 dL_law_966 dL_law_967 (by decide) rfl ?_
  refine lj_gm (as := [.int (xs (i + 1))]) C dL_law_968 rfl lkL_120 rfl rfl rfl rfl (by decide) (gm_rooms (d := 0) (xs (i + 1))) (hm.same s1) hk (fun M2 h2 s2 => ?_)
  refine lj_eq C dL_law_971 (by decide) ?_
  exact next M2 _ (h1.same s2) h2 (by unfold sp_rooms; exact k_same hk)
theorem lc_26 (C : LC p s m meth c G cI cQ ad A b L xs) (hL : L ≤ 3584) (hi : i + 6 < L) (hx : zIx M z) (hm : zIm M z) (hk : zSk z) (next : ∀ M' z', zIx M' z' → zIm M' z' → zSk z' → LJ p l e s m below meth c G cI cQ ad A b 1382 i [] M') : LJ p l e s m below meth c G cI cQ ad A b 976 i [] M := by
  refine lj_a1 C dL_law_976 rfl ?_
  refine lj_arg (j := 1) C hL (by omega) dL_law_977 dL_law_978 dL_law_979 dL_law_980 dL_law_981 (by decide) rfl ?_
  refine lj_arg (j := 2) C hL (by omega) dL_law_982 dL_law_983 dL_law_984 dL_law_985 dL_law_986 (by decide) rfl ?_
  refine lj_gx (as := [.int (xs (i + 1)), .int (xs (i + 2))]) C dL_law_987 rfl lkL_121 rfl rfl rfl rfl (by decide) (gx_couples (d := 0) (xs (i + 1)) (xs (i + 2))) hx hk (fun M1 h1 s1 => ?_)
  refine lj_a2 C dL_law_990 rfl ?_
  refine lj_arg (j := 1) C hL (by omega) dL_law_991 dL_law_992 dL_law_993 dL_law_994 dL_law_995 (by decide) rfl ?_
  refine lj_arg (j := 2) C hL (by omega) dL_law_996 dL_law_997 dL_law_998 dL_law_999 dL_law_1000 (by decide) rfl ?_
  refine lj_gm (as := [.int (xs (i + 1)), .int (xs (i + 2))]) C dL_law_1001 rfl lkL_124 rfl rfl rfl rfl (by decide) (gm_couples (d := 0) (xs (i + 1)) (xs (i + 2))) (hm.same s1) hk (fun M2 h2 s2 => ?_)
  refine lj_eq C dL_law_1004 (by decide) ?_
  exact next M2 _ (h1.same s2) h2 (by unfold sp_couples; exact k_same hk)
theorem lc_27 (C : LC p s m meth c G cI cQ ad A b L xs) (hL : L ≤ 3584) (hi : i + 6 < L) (hx : zIx M z) (hm : zIm M z) (hk : zSk z) (next : ∀ M' z', zIx M' z' → zIm M' z' → zSk z' → LJ p l e s m below meth c G cI cQ ad A b 1382 i [] M') : LJ p l e s m below meth c G cI cQ ad A b 1009 i [] M := by
  refine lj_a1 C dL_law_1009 rfl ?_
  refine lj_arg (j := 1) C hL (by omega) dL_law_1010 dL_law_1011 dL_law_1012 dL_law_1013 dL_law_1014 (by decide) rfl ?_
  refine lj_arg (j := 2) C hL (by omega) dL_law_1015 dL_law_1016 dL_law_1017 dL_law_1018 dL_law_1019 (by decide) rfl ?_
  refine lj_gx (as := [.int (xs (i + 1)), .int (xs (i + 2))]) C dL_law_1020 rfl lkL_125 rfl rfl rfl rfl (by decide) (gx_buys (d := 0) (xs (i + 1)) (xs (i + 2))) hx hk (fun M1 h1 s1 => ?_)
  refine lj_a2 C dL_law_1023 rfl ?_
  refine lj_arg (j := 1) C hL (by omega) dL_law_1024 dL_law_1025 dL_law_1026 dL_law_1027 dL_law_1028 (by decide) rfl ?_
  refine lj_arg (j := 2) C hL (by omega) dL_law_1029 dL_law_1030 dL_law_1031 dL_law_1032 dL_law_1033 (by decide) rfl ?_
  refine lj_gm (as := [.int (xs (i + 1)), .int (xs (i + 2))]) C dL_law_1034 rfl lkL_128 rfl rfl rfl rfl (by decide) (gm_buys (d := 0) (xs (i + 1)) (xs (i + 2))) (hm.same s1) hk (fun M2 h2 s2 => ?_)
  refine lj_eq C dL_law_1037 (by decide) ?_
  exact next M2 _ (h1.same s2) h2 (by unfold sp_best; exact k_same hk)
theorem lc_28 (C : LC p s m meth c G cI cQ ad A b L xs) (hL : L ≤ 3584) (hi : i + 6 < L) (hx : zIx M z) (hm : zIm M z) (hk : zSk z) (next : ∀ M' z', zIx M' z' → zIm M' z' → zSk z' → LJ p l e s m below meth c G cI cQ ad A b 1382 i [] M') : LJ p l e s m below meth c G cI cQ ad A b 1042 i [] M := by
  refine lj_a1 C dL_law_1042 rfl ?_
  refine lj_arg (j := 1) C hL (by omega) dL_law_1043 dL_law_1044 dL_law_1045 dL_law_1046 dL_law_1047 (by decide) rfl ?_
  refine lj_gx (as := [.int (xs (i + 1))]) C dL_law_1048 rfl lkL_129 rfl rfl rfl rfl (by decide) (gx_matters (d := 0) (xs (i + 1))) hx hk (fun M1 h1 s1 => ?_)
  refine lj_a2 C dL_law_1051 rfl ?_
  refine lj_arg (j := 1) C hL (by omega) dL_law_1052 dL_law_1053 dL_law_1054 dL_law_1055 dL_law_1056 (by decide) rfl ?_
  refine lj_gm (as := [.int (xs (i + 1))]) C dL_law_1057 rfl lkL_132 rfl rfl rfl rfl (by decide) (gm_matters (d := 0) (xs (i + 1))) (hm.same s1) hk (fun M2 h2 s2 => ?_)
  refine lj_eq C dL_law_1060 (by decide) ?_
  exact next M2 _ (h1.same s2) h2 (by unfold sp_matters; exact k_same hk)
theorem lc_29 (C : LC p s m meth c G cI cQ ad A b L xs) (hL : L ≤ 3584) (hi : i + 6 < L) (hx : zIx M z) (hm : zIm M z) (hk : zSk z) (next : ∀ M' z', zIx M' z' → zIm M' z' → zSk z' → LJ p l e s m below meth c G cI cQ ad A b 1382 i [] M') : LJ p l e s m below meth c G cI cQ ad A b 1065 i [] M := by
  refine lj_a1 C dL_law_1065 rfl ?_
  refine lj_arg (j := 1) C hL (by omega) dL_law_1066 dL_law_1067 dL_law_1068 dL_law_1069 dL_law_1070 (by decide) rfl ?_
  refine lj_arg (j := 2) C hL (by omega) dL_law_1071 dL_law_1072 dL_law_1073 dL_law_1074 dL_law_1075 (by decide) rfl ?_
  refine lj_arg (j := 3) C hL (by omega) dL_law_1076 dL_law_1077 dL_law_1078 dL_law_1079 dL_law_1080 (by decide) rfl ?_
  refine lj_arg (j := 4) C hL (by omega) dL_law_1081 dL_law_1082 dL_law_1083 dL_law_1084 dL_law_1085 (by decide) rfl ?_
  refine lj_arg (j := 5) C hL (by omega) dL_law_1086 dL_law_1087 dL_law_1088 dL_law_1089 dL_law_1090 (by decide) rfl ?_
  refine lj_arg6 (j := 6) C hL (by omega) dL_law_1091 dL_law_1092 dL_law_1093 dL_law_1095 dL_law_1096 (by decide) rfl ?_
  refine lj_gxl (as := [.int (xs (i + 1)), .int (xs (i + 2)), .int (xs (i + 3)), .int (xs (i + 4)), .int (xs (i + 5)), .int (xs (i + 6))]) C dL_law_1097 rfl lkL_133 rfl rfl rfl rfl (by decide) (gx_deaths (d := 0) (xs (i + 1)) (xs (i + 2)) (xs (i + 3)) (xs (i + 4)) (xs (i + 5)) (xs (i + 6))) hx hk (fun M1 h1 s1 => ?_)
  refine lj_a2 C dL_law_1100 rfl ?_
  refine lj_arg (j := 1) C hL (by omega) dL_law_1101 dL_law_1102 dL_law_1103 dL_law_1104 dL_law_1105 (by decide) rfl ?_
  refine lj_arg (j := 2) C hL (by omega) dL_law_1106 dL_law_1107 dL_law_1108 dL_law_1109 dL_law_1110 (by decide) rfl ?_
  refine lj_arg (j := 3) C hL (by omega) dL_law_1111 dL_law_1112 dL_law_1113 dL_law_1114 dL_law_1115 (by decide) rfl ?_
  refine lj_arg (j := 4) C hL (by omega) dL_law_1116 dL_law_1117 dL_law_1118 dL_law_1119 dL_law_1120 (by decide) rfl ?_
  refine lj_arg (j := 5) C hL (by omega) dL_law_1121 dL_law_1122 dL_law_1123 dL_law_1124 dL_law_1125 (by decide) rfl ?_
  refine lj_arg6 (j := 6) C hL (by omega) dL_law_1126 dL_law_1127 dL_law_1128 dL_law_1130 dL_law_1131 (by decide) rfl ?_
  refine lj_gml (as := [.int (xs (i + 1)), .int (xs (i + 2)), .int (xs (i + 3)), .int (xs (i + 4)), .int (xs (i + 5)), .int (xs (i + 6))]) C dL_law_1132 rfl lkL_137 rfl rfl rfl rfl (by decide) (gm_deaths (d := 0) (xs (i + 1)) (xs (i + 2)) (xs (i + 3)) (xs (i + 4)) (xs (i + 5)) (xs (i + 6))) (hm.same s1) hk (fun M2 h2 s2 => ?_)
  refine lj_leq C dL_law_1135 dL_law_1136 (by decide) ?_
  exact next M2 _ (h1.same s2) h2 (by unfold sp_deaths; exact k_sameL hk)
theorem lc_30 (C : LC p s m meth c G cI cQ ad A b L xs) (hL : L ≤ 3584) (hi : i + 6 < L) (hx : zIx M z) (hm : zIm M z) (hk : zSk z) (next : ∀ M' z', zIx M' z' → zIm M' z' → zSk z' → LJ p l e s m below meth c G cI cQ ad A b 1382 i [] M') : LJ p l e s m below meth c G cI cQ ad A b 1141 i [] M := by
  refine lj_a1 C dL_law_1141 rfl ?_
  refine lj_arg (j := 1) C hL (by omega) dL_law_1142 dL_law_1143 dL_law_1144 dL_law_1145 dL_law_1146 (by decide) rfl ?_
  refine lj_gxl (as := [.int (xs (i + 1))]) C dL_law_1147 rfl lkL_138 rfl rfl rfl rfl (by decide) (gx_mean (d := 0) (xs (i + 1))) hx hk (fun M1 h1 s1 => ?_)
  refine lj_a2 C dL_law_1150 rfl ?_
  refine lj_arg (j := 1) C hL (by omega) dL_law_1151 dL_law_1152 dL_law_1153 dL_law_1154 dL_law_1155 (by decide) rfl ?_
  refine lj_gml (as := [.int (xs (i + 1))]) C dL_law_1156 rfl lkL_142 rfl rfl rfl rfl (by decide) (gm_mean (d := 0) (xs (i + 1))) (hm.same s1) hk (fun M2 h2 s2 => ?_)
  refine lj_leq C dL_law_1159 dL_law_1160 (by decide) ?_
  exact next M2 _ (h1.same s2) h2 (by unfold sp_mean; exact k_sameL hk)
theorem lc_31 (C : LC p s m meth c G cI cQ ad A b L xs) (hL : L ≤ 3584) (hi : i + 6 < L) (hx : zIx M z) (hm : zIm M z) (hk : zSk z) (next : ∀ M' z', zIx M' z' → zIm M' z' → zSk z' → LJ p l e s m below meth c G cI cQ ad A b 1382 i [] M') : LJ p l e s m below meth c G cI cQ ad A b 1165 i [] M := by
  refine lj_a1 C dL_law_1165 rfl ?_
  refine lj_arg (j := 1) C hL (by omega) dL_law_1166 dL_law_1167 dL_law_1168 dL_law_1169 dL_law_1170 (by decide) rfl ?_
  refine lj_arg (j := 2) C hL (by omega) dL_law_1171 dL_law_1172 dL_law_1173 dL_law_1174 dL_law_1175 (by decide) rfl ?_
  refine lj_arg (j := 3) C hL (by omega) dL_law_1176 dL_law_1177 dL_law_1178 dL_law_1179 dL_law_1180 (by decide) rfl ?_
  refine lj_gx (as := [.int (xs (i + 1)), .int (xs (i + 2)), .int (xs (i + 3))]) C dL_law_1181 rfl lkL_143 rfl rfl rfl rfl (by decide) (gx_two (d := 0) (xs (i + 1)) (xs (i + 2)) (xs (i + 3))) hx hk (fun M1 h1 s1 => ?_)
  refine lj_a2 C dL_law_1184 rfl ?_
  refine lj_arg (j := 1) C hL (by omega) dL_law_1185 dL_law_1186 dL_law_1187 dL_law_1188 dL_law_1189 (by decide) rfl ?_
  refine lj_arg (j := 2) C hL (by omega) dL_law_1190 dL_law_1191 dL_law_1192 dL_law_1193 dL_law_1194 (by decide) rfl ?_
  refine lj_arg (j := 3) C hL (by omega) dL_law_1195 dL_law_1196 dL_law_1197 dL_law_1198 dL_law_1199 (by decide) rfl ?_
  refine lj_gm (as := [.int (xs (i + 1)), .int (xs (i + 2)), .int (xs (i + 3))]) C dL_law_1200 rfl lkL_146 rfl rfl rfl rfl (by decide) (gm_two (d := 0) (xs (i + 1)) (xs (i + 2)) (xs (i + 3))) (hm.same s1) hk (fun M2 h2 s2 => ?_)
  refine lj_eq C dL_law_1203 (by decide) ?_
  exact next M2 _ (h1.same s2) h2 (by unfold sp_two; exact k_same hk)
theorem lc_32 (C : LC p s m meth c G cI cQ ad A b L xs) (hL : L ≤ 3584) (hi : i + 6 < L) (hx : zIx M z) (hm : zIm M z) (hk : zSk z) (next : ∀ M' z', zIx M' z' → zIm M' z' → zSk z' → LJ p l e s m below meth c G cI cQ ad A b 1382 i [] M') : LJ p l e s m below meth c G cI cQ ad A b 1208 i [] M := by
  refine lj_a1 C dL_law_1208 rfl ?_
  refine lj_arg (j := 1) C hL (by omega) dL_law_1209 dL_law_1210 dL_law_1211 dL_law_1212 dL_law_1213 (by decide) rfl ?_
  refine lj_arg (j := 2) C hL (by omega) dL_law_1214 dL_law_1215 dL_law_1216 dL_law_1217 dL_law_1218 (by decide) rfl ?_
  refine lj_gx (as := [.int (xs (i + 1)), .int (xs (i + 2))]) C dL_law_1219 rfl lkL_147 rfl rfl rfl rfl (by decide) (gx_whatIs (d := 0) (xs (i + 1)) (xs (i + 2))) hx hk (fun M1 h1 s1 => ?_)
  refine lj_a2 C dL_law_1222 rfl ?_
  refine lj_arg (j := 1) C hL (by omega) dL_law_1223 dL_law_1224 dL_law_1225 dL_law_1226 dL_law_1227 (by decide) rfl ?_
  refine lj_arg (j := 2) C hL (by omega) dL_law_1228 dL_law_1229 dL_law_1230 dL_law_1231 dL_law_1232 (by decide) rfl ?_
  refine lj_gm (as := [.int (xs (i + 1)), .int (xs (i + 2))]) C dL_law_1233 rfl lkL_150 rfl rfl rfl rfl (by decide) (gm_whatIs (d := 0) (xs (i + 1)) (xs (i + 2))) (hm.same s1) hk (fun M2 h2 s2 => ?_)
  refine lj_eq C dL_law_1236 (by decide) ?_
  exact next M2 _ (h1.same s2) h2 (by unfold sp_whatIs; exact k_same hk)
theorem lc_33 (C : LC p s m meth c G cI cQ ad A b L xs) (hL : L ≤ 3584) (hi : i + 6 < L) (hx : zIx M z) (hm : zIm M z) (hk : zSk z) (next : ∀ M' z', zIx M' z' → zIm M' z' → zSk z' → LJ p l e s m below meth c G cI cQ ad A b 1382 i [] M') : LJ p l e s m below meth c G cI cQ ad A b 1241 i [] M := by
  refine lj_a1 C dL_law_1241 rfl ?_
  refine lj_arg (j := 1) C hL (by omega) dL_law_1242 dL_law_1243 dL_law_1244 dL_law_1245 dL_law_1246 (by decide) rfl ?_
  refine lj_gx (as := [.int (xs (i + 1))]) C dL_law_1247 rfl lkL_151 rfl rfl rfl rfl (by decide) (gx_row (d := 0) (xs (i + 1))) hx hk (fun M1 h1 s1 => ?_)
  refine lj_a2 C dL_law_1250 rfl ?_
  refine lj_arg (j := 1) C hL (by omega) dL_law_1251 dL_law_1252 dL_law_1253 dL_law_1254 dL_law_1255 (by decide) rfl ?_
  refine lj_gm (as := [.int (xs (i + 1))]) C dL_law_1256 rfl lkL_154 rfl rfl rfl rfl (by decide) (gm_row (d := 0) (xs (i + 1))) (hm.same s1) hk (fun M2 h2 s2 => ?_)
  refine lj_eq C dL_law_1259 (by decide) ?_
  exact next M2 _ (h1.same s2) h2 (k_row (xs (i + 1)) hk)
theorem lc_34 (C : LC p s m meth c G cI cQ ad A b L xs) (hL : L ≤ 3584) (hi : i + 6 < L) (hx : zIx M z) (hm : zIm M z) (hk : zSk z) (next : ∀ M' z', zIx M' z' → zIm M' z' → zSk z' → LJ p l e s m below meth c G cI cQ ad A b 1382 i [] M') : LJ p l e s m below meth c G cI cQ ad A b 1264 i [] M := by
  refine lj_a1 C dL_law_1264 rfl ?_
  refine lj_gx (as := []) C dL_law_1265 rfl lkL_155 rfl rfl rfl rfl (by decide) (gx_judge (d := 0) ) hx hk (fun M1 h1 s1 => ?_)
  refine lj_a2 C dL_law_1268 rfl ?_
  refine lj_gm (as := []) C dL_law_1269 rfl lkL_158 rfl rfl rfl rfl (by decide) (gm_judge (d := 0) ) (hm.same s1) hk (fun M2 h2 s2 => ?_)
  refine lj_eq C dL_law_1272 (by decide) ?_
  exact next M2 _ (h1.same s2) h2 (k_judge hk)
theorem lc_35 (C : LC p s m meth c G cI cQ ad A b L xs) (hL : L ≤ 3584) (hi : i + 6 < L) (hx : zIx M z) (hm : zIm M z) (hk : zSk z) (next : ∀ M' z', zIx M' z' → zIm M' z' → zSk z' → LJ p l e s m below meth c G cI cQ ad A b 1382 i [] M') : LJ p l e s m below meth c G cI cQ ad A b 1277 i [] M := by
  refine lj_a1 C dL_law_1277 rfl ?_
  refine lj_gx (as := []) C dL_law_1278 rfl lkL_159 rfl rfl rfl rfl (by decide) (gx_clear (d := 0) ) hx hk (fun M1 h1 s1 => ?_)
  refine lj_a2 C dL_law_1281 rfl ?_
  refine lj_gm (as := []) C dL_law_1282 rfl lkL_162 rfl rfl rfl rfl (by decide) (gm_clear (d := 0) ) (hm.same s1) hk (fun M2 h2 s2 => ?_)
  refine lj_eq C dL_law_1285 (by decide) ?_
  exact next M2 _ (h1.same s2) h2 (k_clear hk)
theorem lc_36 (C : LC p s m meth c G cI cQ ad A b L xs) (hL : L ≤ 3584) (hi : i + 6 < L) (hx : zIx M z) (hm : zIm M z) (hk : zSk z) (next : ∀ M' z', zIx M' z' → zIm M' z' → zSk z' → LJ p l e s m below meth c G cI cQ ad A b 1382 i [] M') : LJ p l e s m below meth c G cI cQ ad A b 1290 i [] M := by
  refine lj_a1 C dL_law_1290 rfl ?_
  refine lj_arg (j := 1) C hL (by omega) dL_law_1291 dL_law_1292 dL_law_1293 dL_law_1294 dL_law_1295 (by decide) rfl ?_
  refine lj_arg (j := 2) C hL (by omega) dL_law_1296 dL_law_1297 dL_law_1298 dL_law_1299 dL_law_1300 (by decide) rfl ?_
  refine lj_arg (j := 3) C hL (by omega) dL_law_1301 dL_law_1302 dL_law_1303 dL_law_1304 dL_law_1305 (by decide) rfl ?_
  refine lj_gx (as := [.int (xs (i + 1)), .int (xs (i + 2)), .int (xs (i + 3))]) C dL_law_1306 rfl lkL_163 rfl rfl rfl rfl (by decide) (gx_lots (d := 0) (xs (i + 1)) (xs (i + 2)) (xs (i + 3))) hx hk (fun M1 h1 s1 => ?_)
  refine lj_a2 C dL_law_1309 rfl ?_
  refine lj_arg (j := 1) C hL (by omega) dL_law_1310 dL_law_1311 dL_law_1312 dL_law_1313 dL_law_1314 (by decide) rfl ?_
  refine lj_arg (j := 2) C hL (by omega) dL_law_1315 dL_law_1316 dL_law_1317 dL_law_1318 dL_law_1319 (by decide) rfl ?_
  refine lj_arg (j := 3) C hL (by omega) dL_law_1320 dL_law_1321 dL_law_1322 dL_law_1323 dL_law_1324 (by decide) rfl ?_
  refine lj_gm (as := [.int (xs (i + 1)), .int (xs (i + 2)), .int (xs (i + 3))]) C dL_law_1325 rfl lkL_166 rfl rfl rfl rfl (by decide) (gm_lots (d := 0) (xs (i + 1)) (xs (i + 2)) (xs (i + 3))) (hm.same s1) hk (fun M2 h2 s2 => ?_)
  refine lj_eq C dL_law_1328 (by decide) ?_
  exact next M2 _ (h1.same s2) h2 (by unfold sp_lots  sp_lotsG; exact k_same hk)
theorem lc_37 (C : LC p s m meth c G cI cQ ad A b L xs) (hL : L ≤ 3584) (hi : i + 6 < L) (hx : zIx M z) (hm : zIm M z) (hk : zSk z) (next : ∀ M' z', zIx M' z' → zIm M' z' → zSk z' → LJ p l e s m below meth c G cI cQ ad A b 1382 i [] M') : LJ p l e s m below meth c G cI cQ ad A b 1333 i [] M := by
  refine lj_a1 C dL_law_1333 rfl ?_
  refine lj_gx (as := []) C dL_law_1334 rfl lkL_167 rfl rfl rfl rfl (by decide) (gx_image (d := 0) ) hx hk (fun M1 h1 s1 => ?_)
  refine lj_a2 C dL_law_1337 rfl ?_
  refine lj_gm (as := []) C dL_law_1338 rfl lkL_170 rfl rfl rfl rfl (by decide) (gm_image (d := 0) ) (hm.same s1) hk (fun M2 h2 s2 => ?_)
  refine lj_eq C dL_law_1341 (by decide) ?_
  exact next M2 _ (h1.same s2) h2 (k_image hk)
theorem lc_38 (C : LC p s m meth c G cI cQ ad A b L xs) (hL : L ≤ 3584) (hi : i + 6 < L) (hx : zIx M z) (hm : zIm M z) (hk : zSk z) (next : ∀ M' z', zIx M' z' → zIm M' z' → zSk z' → LJ p l e s m below meth c G cI cQ ad A b 1382 i [] M') : LJ p l e s m below meth c G cI cQ ad A b 1346 i [] M := by
  refine lj_a1 C dL_law_1346 rfl ?_
  refine lj_gx (as := []) C dL_law_1347 rfl lkL_171 rfl rfl rfl rfl (by decide) (gx_on (d := 0) ) hx hk (fun M1 h1 s1 => ?_)
  refine lj_a2 C dL_law_1350 rfl ?_
  refine lj_gm (as := []) C dL_law_1351 rfl lkL_174 rfl rfl rfl rfl (by decide) (gm_on (d := 0) ) (hm.same s1) hk (fun M2 h2 s2 => ?_)
  refine lj_eq C dL_law_1354 (by decide) ?_
  exact next M2 _ (h1.same s2) h2 (k_on hk)
theorem lc_39 (C : LC p s m meth c G cI cQ ad A b L xs) (hL : L ≤ 3584) (hi : i + 6 < L) (hx : zIx M z) (hm : zIm M z) (hk : zSk z) (next : ∀ M' z', zIx M' z' → zIm M' z' → zSk z' → LJ p l e s m below meth c G cI cQ ad A b 1382 i [] M') : LJ p l e s m below meth c G cI cQ ad A b 1359 i [] M := by
  refine lj_a1 C dL_law_1359 rfl ?_
  refine lj_arg (j := 1) C hL (by omega) dL_law_1360 dL_law_1361 dL_law_1362 dL_law_1363 dL_law_1364 (by decide) rfl ?_
  refine lj_gx (as := [.int (xs (i + 1))]) C dL_law_1365 rfl lkL_175 rfl rfl rfl rfl (by decide) (gx_count (d := 0) (xs (i + 1))) hx hk (fun M1 h1 s1 => ?_)
  refine lj_a2 C dL_law_1368 rfl ?_
  refine lj_arg (j := 1) C hL (by omega) dL_law_1369 dL_law_1370 dL_law_1371 dL_law_1372 dL_law_1373 (by decide) rfl ?_
  refine lj_gm (as := [.int (xs (i + 1))]) C dL_law_1374 rfl lkL_178 rfl rfl rfl rfl (by decide) (gm_count (d := 0) (xs (i + 1))) (hm.same s1) hk (fun M2 h2 s2 => ?_)
  refine lj_eq C dL_law_1377 (by decide) ?_
  exact next M2 _ (h1.same s2) h2 (hk)
theorem law_next (C : LC p s m meth c G cI cQ ad A b L xs) (hL : L ≤ 3584) (hi : i + 6 < L) (hx : zIx M z) (hm : zIm M z) (hk : zSk z) (next : ∀ M' z', zIx M' z' → zIm M' z' → zSk z' → LJ p l e s m below meth c G cI cQ ad A b 1382 i [] M') : ∀ k, k < 64 → LJ p l e s m below meth c G cI cQ ad A b 33 i [.int (nI k)] M := by
  intro k hk64
  by_cases h40 : k < 40
  · rcases (show k = 0 ∨ k = 1 ∨ k = 2 ∨ k = 3 ∨ k = 4 ∨ k = 5 ∨ k = 6 ∨ k = 7 ∨ k = 8 ∨ k = 9 ∨ k = 10 ∨ k = 11 ∨ k = 12 ∨ k = 13 ∨ k = 14 ∨ k = 15 ∨ k = 16 ∨ k = 17 ∨ k = 18 ∨ k = 19 ∨ k = 20 ∨ k = 21 ∨ k = 22 ∨ k = 23 ∨ k = 24 ∨ k = 25 ∨ k = 26 ∨ k = 27 ∨ k = 28 ∨ k = 29 ∨ k = 30 ∨ k = 31 ∨ k = 32 ∨ k = 33 ∨ k = 34 ∨ k = 35 ∨ k = 36 ∨ k = 37 ∨ k = 38 ∨ k = 39 by omega) with rfl | rfl | rfl | rfl | rfl | rfl | rfl | rfl | rfl | rfl | rfl | rfl | rfl | rfl | rfl | rfl | rfl | rfl | rfl | rfl | rfl | rfl | rfl | rfl | rfl | rfl | rfl | rfl | rfl | rfl | rfl | rfl | rfl | rfl | rfl | rfl | rfl | rfl | rfl | rfl
    · exact fun H locs ls hW hS hl => lv_tableIn (tgt := 208) C.1.1 C.1.2.1 dL_law_33 (by decide) (by decide) (off := 175) rfl (by decide) (lc_0 C hL hi hx hm hk next H locs ls hW hS hl)
    · exact fun H locs ls hW hS hl => lv_tableIn (tgt := 231) C.1.1 C.1.2.1 dL_law_33 (by decide) (by decide) (off := 198) rfl (by decide) (lc_1 C hL hi hx hm hk next H locs ls hW hS hl)
    · exact fun H locs ls hW hS hl => lv_tableIn (tgt := 244) C.1.1 C.1.2.1 dL_law_33 (by decide) (by decide) (off := 211) rfl (by decide) (lc_2 C hL hi hx hm hk next H locs ls hW hS hl)
    · exact fun H locs ls hW hS hl => lv_tableIn (tgt := 277) C.1.1 C.1.2.1 dL_law_33 (by decide) (by decide) (off := 244) rfl (by decide) (lc_3 C hL hi hx hm hk next H locs ls hW hS hl)
    · exact fun H locs ls hW hS hl => lv_tableIn (tgt := 320) C.1.1 C.1.2.1 dL_law_33 (by decide) (by decide) (off := 287) rfl (by decide) (lc_4 C hL hi hx hm hk next H locs ls hW hS hl)
    · exact fun H locs ls hW hS hl => lv_tableIn (tgt := 353) C.1.1 C.1.2.1 dL_law_33 (by decide) (by decide) (off := 320) rfl (by decide) (lc_5 C hL hi hx hm hk next H locs ls hW hS hl)
    · exact fun H locs ls hW hS hl => lv_tableIn (tgt := 386) C.1.1 C.1.2.1 dL_law_33 (by decide) (by decide) (off := 353) rfl (by decide) (lc_6 C hL hi hx hm hk next H locs ls hW hS hl)
    · exact fun H locs ls hW hS hl => lv_tableIn (tgt := 419) C.1.1 C.1.2.1 dL_law_33 (by decide) (by decide) (off := 386) rfl (by decide) (lc_7 C hL hi hx hm hk next H locs ls hW hS hl)
    · exact fun H locs ls hW hS hl => lv_tableIn (tgt := 462) C.1.1 C.1.2.1 dL_law_33 (by decide) (by decide) (off := 429) rfl (by decide) (lc_8 C hL hi hx hm hk next H locs ls hW hS hl)
    · exact fun H locs ls hW hS hl => lv_tableIn (tgt := 485) C.1.1 C.1.2.1 dL_law_33 (by decide) (by decide) (off := 452) rfl (by decide) (lc_9 C hL hi hx hm hk next H locs ls hW hS hl)
    · exact fun H locs ls hW hS hl => lv_tableIn (tgt := 528) C.1.1 C.1.2.1 dL_law_33 (by decide) (by decide) (off := 495) rfl (by decide) (lc_10 C hL hi hx hm hk next H locs ls hW hS hl)
    · exact fun H locs ls hW hS hl => lv_tableIn (tgt := 571) C.1.1 C.1.2.1 dL_law_33 (by decide) (by decide) (off := 538) rfl (by decide) (lc_11 C hL hi hx hm hk next H locs ls hW hS hl)
    · exact fun H locs ls hW hS hl => lv_tableIn (tgt := 594) C.1.1 C.1.2.1 dL_law_33 (by decide) (by decide) (off := 561) rfl (by decide) (lc_12 C hL hi hx hm hk next H locs ls hW hS hl)
    · exact fun H locs ls hW hS hl => lv_tableIn (tgt := 617) C.1.1 C.1.2.1 dL_law_33 (by decide) (by decide) (off := 584) rfl (by decide) (lc_13 C hL hi hx hm hk next H locs ls hW hS hl)
    · exact fun H locs ls hW hS hl => lv_tableIn (tgt := 640) C.1.1 C.1.2.1 dL_law_33 (by decide) (by decide) (off := 607) rfl (by decide) (lc_14 C hL hi hx hm hk next H locs ls hW hS hl)
    · exact fun H locs ls hW hS hl => lv_tableIn (tgt := 663) C.1.1 C.1.2.1 dL_law_33 (by decide) (by decide) (off := 630) rfl (by decide) (lc_15 C hL hi hx hm hk next H locs ls hW hS hl)
    · exact fun H locs ls hW hS hl => lv_tableIn (tgt := 696) C.1.1 C.1.2.1 dL_law_33 (by decide) (by decide) (off := 663) rfl (by decide) (lc_16 C hL hi hx hm hk next H locs ls hW hS hl)
    · exact fun H locs ls hW hS hl => lv_tableIn (tgt := 729) C.1.1 C.1.2.1 dL_law_33 (by decide) (by decide) (off := 696) rfl (by decide) (lc_17 C hL hi hx hm hk next H locs ls hW hS hl)
    · exact fun H locs ls hW hS hl => lv_tableIn (tgt := 752) C.1.1 C.1.2.1 dL_law_33 (by decide) (by decide) (off := 719) rfl (by decide) (lc_18 C hL hi hx hm hk next H locs ls hW hS hl)
    · exact fun H locs ls hW hS hl => lv_tableIn (tgt := 775) C.1.1 C.1.2.1 dL_law_33 (by decide) (by decide) (off := 742) rfl (by decide) (lc_19 C hL hi hx hm hk next H locs ls hW hS hl)
    · exact fun H locs ls hW hS hl => lv_tableIn (tgt := 798) C.1.1 C.1.2.1 dL_law_33 (by decide) (by decide) (off := 765) rfl (by decide) (lc_20 C hL hi hx hm hk next H locs ls hW hS hl)
    · exact fun H locs ls hW hS hl => lv_tableIn (tgt := 831) C.1.1 C.1.2.1 dL_law_33 (by decide) (by decide) (off := 798) rfl (by decide) (lc_21 C hL hi hx hm hk next H locs ls hW hS hl)
    · exact fun H locs ls hW hS hl => lv_tableIn (tgt := 864) C.1.1 C.1.2.1 dL_law_33 (by decide) (by decide) (off := 831) rfl (by decide) (lc_22 C hL hi hx hm hk next H locs ls hW hS hl)
    · exact fun H locs ls hW hS hl => lv_tableIn (tgt := 907) C.1.1 C.1.2.1 dL_law_33 (by decide) (by decide) (off := 874) rfl (by decide) (lc_23 C hL hi hx hm hk next H locs ls hW hS hl)
    · exact fun H locs ls hW hS hl => lv_tableIn (tgt := 920) C.1.1 C.1.2.1 dL_law_33 (by decide) (by decide) (off := 887) rfl (by decide) (lc_24 C hL hi hx hm hk next H locs ls hW hS hl)
    · exact fun H locs ls hW hS hl => lv_tableIn (tgt := 953) C.1.1 C.1.2.1 dL_law_33 (by decide) (by decide) (off := 920) rfl (by decide) (lc_25 C hL hi hx hm hk next H locs ls hW hS hl)
    · exact fun H locs ls hW hS hl => lv_tableIn (tgt := 976) C.1.1 C.1.2.1 dL_law_33 (by decide) (by decide) (off := 943) rfl (by decide) (lc_26 C hL hi hx hm hk next H locs ls hW hS hl)
    · exact fun H locs ls hW hS hl => lv_tableIn (tgt := 1009) C.1.1 C.1.2.1 dL_law_33 (by decide) (by decide) (off := 976) rfl (by decide) (lc_27 C hL hi hx hm hk next H locs ls hW hS hl)
    · exact fun H locs ls hW hS hl => lv_tableIn (tgt := 1042) C.1.1 C.1.2.1 dL_law_33 (by decide) (by decide) (off := 1009) rfl (by decide) (lc_28 C hL hi hx hm hk next H locs ls hW hS hl)
    · exact fun H locs ls hW hS hl => lv_tableIn (tgt := 1065) C.1.1 C.1.2.1 dL_law_33 (by decide) (by decide) (off := 1032) rfl (by decide) (lc_29 C hL hi hx hm hk next H locs ls hW hS hl)
    · exact fun H locs ls hW hS hl => lv_tableIn (tgt := 1141) C.1.1 C.1.2.1 dL_law_33 (by decide) (by decide) (off := 1108) rfl (by decide) (lc_30 C hL hi hx hm hk next H locs ls hW hS hl)
    · exact fun H locs ls hW hS hl => lv_tableIn (tgt := 1165) C.1.1 C.1.2.1 dL_law_33 (by decide) (by decide) (off := 1132) rfl (by decide) (lc_31 C hL hi hx hm hk next H locs ls hW hS hl)
    · exact fun H locs ls hW hS hl => lv_tableIn (tgt := 1208) C.1.1 C.1.2.1 dL_law_33 (by decide) (by decide) (off := 1175) rfl (by decide) (lc_32 C hL hi hx hm hk next H locs ls hW hS hl)
    · exact fun H locs ls hW hS hl => lv_tableIn (tgt := 1241) C.1.1 C.1.2.1 dL_law_33 (by decide) (by decide) (off := 1208) rfl (by decide) (lc_33 C hL hi hx hm hk next H locs ls hW hS hl)
    · exact fun H locs ls hW hS hl => lv_tableIn (tgt := 1264) C.1.1 C.1.2.1 dL_law_33 (by decide) (by decide) (off := 1231) rfl (by decide) (lc_34 C hL hi hx hm hk next H locs ls hW hS hl)
    · exact fun H locs ls hW hS hl => lv_tableIn (tgt := 1277) C.1.1 C.1.2.1 dL_law_33 (by decide) (by decide) (off := 1244) rfl (by decide) (lc_35 C hL hi hx hm hk next H locs ls hW hS hl)
    · exact fun H locs ls hW hS hl => lv_tableIn (tgt := 1290) C.1.1 C.1.2.1 dL_law_33 (by decide) (by decide) (off := 1257) rfl (by decide) (lc_36 C hL hi hx hm hk next H locs ls hW hS hl)
    · exact fun H locs ls hW hS hl => lv_tableIn (tgt := 1333) C.1.1 C.1.2.1 dL_law_33 (by decide) (by decide) (off := 1300) rfl (by decide) (lc_37 C hL hi hx hm hk next H locs ls hW hS hl)
    · exact fun H locs ls hW hS hl => lv_tableIn (tgt := 1346) C.1.1 C.1.2.1 dL_law_33 (by decide) (by decide) (off := 1313) rfl (by decide) (lc_38 C hL hi hx hm hk next H locs ls hW hS hl)
    · exact fun H locs ls hW hS hl => lv_tableIn (tgt := 1359) C.1.1 C.1.2.1 dL_law_33 (by decide) (by decide) (off := 1326) rfl (by decide) (lc_39 C hL hi hx hm hk next H locs ls hW hS hl)
  · exact fun H locs ls hW hS hl => lv_tableOut (tgt := 1382) C.1.1 C.1.2.1 dL_law_33 (Or.inr (by rw [nI_toInt (by omega)]; omega)) (by decide) (next M z hx hm hk H locs ls hW hS hl)
theorem law_loop (C : LC p s m meth c G cI cQ ad A b L xs) (hL : L ≤ 3584) : ∀ (r i : Nat) (M : ZMem) (z : ZS), L < i + r → i ≤ L + 7 → zIx M z → zIm M z → zSk z → LJ p l e s m below meth c G cI cQ ad A b 18 i [] M := by
  intro r
  induction r with
  | zero =>
    intro i M z hr hiL hx hm hk H locs ls hW hS hl
    refine lv_iload_n C.1.1 C.1.2.1 dL_law_18 rfl (lv_at hl 0 rfl) ?_
    refine lv_aload_n C.1.1 C.1.2.1 dL_law_19 rfl (lv_at hl 3 rfl) ?_
    refine va_slen C.1.1 C.1.2.1 C.2.2.1 C.2.2.2.1 C.2.2.2.2.1 hS dL_law_20 ?_
    refine lv_bipush (v := nI 7) C.1.1 C.1.2.1 dL_law_21 (by decide) ?_
    refine lv_isub C.1.1 C.1.2.1 dL_law_23 ?_
    refine lv_icmp_gt (tgt := 1388) C.1.1 C.1.2.1 dL_law_24 (by decide) (fun _ => ?_) (fun h => absurd ?_ h)
    · refine lv_iconst (v := 1) C.1.1 C.1.2.1 dL_law_1388 (by decide) ?_
      refine va_forget (fun q hq => C.2.2.2.2.2.2.2 _ (hS.2.2 q hq)) ?_
      refine W.widen (k := 600000) (n := 7302250) (Nat.le_of_ble_eq_true rfl) (Nat.le_of_ble_eq_true rfl) ?_
      exact lw_ret C.1.1 C.1.2.1 C.2.2.2.2.2.1 C.2.2.2.2.2.2.1 dL_law_1389
    · rw [Int32.lt_iff_toInt_lt, nI_toInt (by omega)]
      show (nI L - nI 7).toInt < _
      rw [pk_sub_toInt (by omega) (by omega)]
      omega
  | succ r ih =>
    intro i M z hr hiL hx hm hk H locs ls hW hS hl
    refine lv_iload_n C.1.1 C.1.2.1 dL_law_18 rfl (lv_at hl 0 rfl) ?_
    refine lv_aload_n C.1.1 C.1.2.1 dL_law_19 rfl (lv_at hl 3 rfl) ?_
    refine va_slen C.1.1 C.1.2.1 C.2.2.1 C.2.2.2.1 C.2.2.2.2.1 hS dL_law_20 ?_
    refine lv_bipush (v := nI 7) C.1.1 C.1.2.1 dL_law_21 (by decide) ?_
    refine lv_isub C.1.1 C.1.2.1 dL_law_23 ?_
    refine lv_icmp_gt (tgt := 1388) C.1.1 C.1.2.1 dL_law_24 (by decide) (fun _ => ?_) (fun h => ?_)
    · refine lv_iconst (v := 1) C.1.1 C.1.2.1 dL_law_1388 (by decide) ?_
      refine va_forget (fun q hq => C.2.2.2.2.2.2.2 _ (hS.2.2 q hq)) ?_
      refine W.widen (k := 600000) (n := 7302250) (Nat.le_of_ble_eq_true rfl) (Nat.le_of_ble_eq_true rfl) ?_
      exact lw_ret C.1.1 C.1.2.1 C.2.2.2.2.2.1 C.2.2.2.2.2.2.1 dL_law_1389
    · have hi : i + 7 ≤ L := by
        rcases Nat.lt_or_ge L (i + 7) with q | q
        · exfalso
          apply h
          rw [Int32.lt_iff_toInt_lt, nI_toInt (by omega)]
          show (nI L - nI 7).toInt < _
          rw [pk_sub_toInt (by omega) (by omega)]
          omega
        · exact q
      have next : ∀ M' z', zIx M' z' → zIm M' z' → zSk z' → LJ p l e s m below meth c G cI cQ ad A b 1382 i [] M' := by
        intro M' z' h1 h2 h3 H locs ls hW hS hl
        refine lv_iinc (v := nI (i + 7)) (lv' := [(3, .int (nI (i + 7))), (2, .ref (ad 90)), (1, .ref (ad 0)), (0, .ref b)]) C.1.1 C.1.2.1 dL_law_1382 hl (k := 0) rfl (nI_add i 7) (by decide) rfl (fun ls hl => ?_)
        refine lv_goto (tgt := 18) C.1.1 C.1.2.1 dL_law_1385 (by decide) ?_
        exact ih (i + 7) M' z' (by omega) (by omega) h1 h2 h3 H locs ls hW hS hl
      refine lv_aload_n C.1.1 C.1.2.1 dL_law_27 rfl (lv_at hl 3 rfl) ?_
      refine lv_iload_n C.1.1 C.1.2.1 dL_law_28 rfl (lv_at hl 0 rfl) ?_
      refine va_sld C.1.1 C.1.2.1 C.2.2.1 C.2.2.2.1 C.2.2.2.2.1 hS (vp_in_nI (show i < L by omega) (by omega)) dL_law_29 ?_
      refine lv_bipush (v := nI 63) C.1.1 C.1.2.1 dL_law_30 (by decide) ?_
      refine lv_iand C.1.1 C.1.2.1 dL_law_32 ?_
      rw [pk_and _ (m := nI 63) 6 (by decide)]
      exact law_next C hL (by omega) hx hm hk next _ (Nat.mod_lt _ (by decide)) H locs ls hW hS hl
end
