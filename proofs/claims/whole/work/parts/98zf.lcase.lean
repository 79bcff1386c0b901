/-! THE LAW 3: its cases -/
section ZLAW4
variable {nm : String} {hh : List (Nat × Nat × Nat × Nat)} {Z : zPar} {l : Launch} {x m o od i nc ns : Nat} {M : zMem} {Q : zO → zMem → Prop} {S : zSt}
theorem lc_0 (hi : 6 * i + 6 ≤ (zPs Z).2.1) (hN : (zPs Z).2.1 ≤ 4000) (hS : rRel S) (hM : zR Z x m o od S M) (kk : ∀ S' M', rRel S' → zR Z x m o od S' M' → zX Z l 12 (mth_L nm hh) 2314 (LL Z x m o od (6 * i)) [] M' nc ns Q) : zX Z l 12 (mth_L nm hh) 200 (LL Z x m o od (6 * i)) [] M (nc + 200 + 200) (ns + 1000 + 1000) Q := by
  obtain ⟨c, b, S1, S2, h1, h2, h3, h4, h5⟩ := op_addPitch (Z := Z) (l := l) (x := x) (m := m) (o := o) (od := od) hS (((zPs Z).2.2 (6 * i + 1))) (((zPs Z).2.2 (6 * i + 2))) ((if ((zPs Z).2.2 (6 * i + 3)) = 0 then 0 else 1)) (by split <;> first | exact Or.inl rfl | exact Or.inr rfl)
  refine zs_aload_n (n := 201) dL_law_200 rfl rfl ?_
  refine zl_arg (j := 6 * i) (k := 1) (n := 207) rfl rfl dL_law_201 dL_law_202 dL_law_204 dL_law_205 dL_law_206 rfl (by omega) (by omega) rfl ?_
  refine zl_arg (j := 6 * i) (k := 2) (n := 213) rfl rfl dL_law_207 dL_law_208 dL_law_210 dL_law_211 dL_law_212 rfl (by omega) (by omega) rfl ?_
  refine zl_arg (j := 6 * i) (k := 3) (n := 219) rfl rfl dL_law_213 dL_law_214 dL_law_216 dL_law_217 dL_law_218 rfl (by omega) (by omega) rfl ?_
  refine zl_bool (n := 227) dL_law_219 dL_law_222 dL_law_223 dL_law_226 rfl ?_
  refine zs_aload_n (n := 228) dL_law_227 rfl rfl ?_
  refine zl_W (nc := nc + 200) (ns := ns + 1000) (As := [.ref x, .int ((zPs Z).2.2 (6 * i + 1)), .int ((zPs Z).2.2 (6 * i + 2)), .int (if ((zPs Z).2.2 (6 * i + 3)) = 0 then 0 else 1), .ref o]) (st := []) (n := 231) dL_law_228 ok_L_addPitch ⟨ml_L_128, st_L_addPitch⟩ rfl (Nat.le_of_ble_eq_true rfl) (by simp) rfl rfl h1 hM (fun M hM => ?_)
  refine zs_istore (n := 233) dL_law_231 (by show _ < 9; omega) rfl ?_
  refine zs_aload_n (n := 234) dL_law_233 rfl rfl ?_
  refine zl_arg (j := 6 * i) (k := 1) (n := 240) rfl rfl dL_law_234 dL_law_235 dL_law_237 dL_law_238 dL_law_239 rfl (by omega) (by omega) rfl ?_
  refine zl_arg (j := 6 * i) (k := 2) (n := 246) rfl rfl dL_law_240 dL_law_241 dL_law_243 dL_law_244 dL_law_245 rfl (by omega) (by omega) rfl ?_
  refine zl_arg (j := 6 * i) (k := 3) (n := 252) rfl rfl dL_law_246 dL_law_247 dL_law_249 dL_law_250 dL_law_251 rfl (by omega) (by omega) rfl ?_
  refine zl_bool (n := 260) dL_law_252 dL_law_255 dL_law_256 dL_law_259 rfl ?_
  refine zl_V (nc := nc) (ns := ns) (As := [.int ((zPs Z).2.2 (6 * i + 1)), .int ((zPs Z).2.2 (6 * i + 2)), .int (if ((zPs Z).2.2 (6 * i + 3)) = 0 then 0 else 1)]) (st := []) (ci := 21) (n := 263) dL_law_260 ok_X16_addPitch ⟨ml_L_133, im_X16_addPitch, sl_X16_addPitch⟩ rfl (hM.kM h1.2) rfl (Nat.le_of_ble_eq_true rfl) (by simp) rfl rfl h2 hM (fun M hM => ?_)
  refine zs_istore (n := 265) dL_law_263 (by show _ < 9; omega) rfl ?_
  refine zX.sub (L' := L7 Z x m o od (6 * i) c (.int b)) ⟨rfl, rfl, rfl, rfl, rfl, rfl, rfl, rfl, trivial⟩ ?_
  exact zl_tI (pc := 265) dL_law_265 dL_law_266 dL_law_269 dL_law_271 dL_law_276 dL_law_278 dL_law_281 dL_law_282 dL_law_283 dL_law_284 dL_law_286 dL_law_287 dL_law_288 dL_law_293 (by decide) h5 hM h3 h4 (fun M hM => kk S2 M h5 hM)
theorem lc_1 (hi : 6 * i + 6 ≤ (zPs Z).2.1) (hN : (zPs Z).2.1 ≤ 4000) (hS : rRel S) (hM : zR Z x m o od S M) (kk : ∀ S' M', rRel S' → zR Z x m o od S' M' → zX Z l 12 (mth_L nm hh) 2314 (LL Z x m o od (6 * i)) [] M' nc ns Q) : zX Z l 12 (mth_L nm hh) 296 (LL Z x m o od (6 * i)) [] M (nc + 200 + 200) (ns + 1000 + 1000) Q := by
  obtain ⟨c, b, S1, S2, h1, h2, h3, h4, h5⟩ := op_setPassers (Z := Z) (l := l) (x := x) (m := m) (o := o) (od := od) hS (((zPs Z).2.2 (6 * i + 1))) (((zPs Z).2.2 (6 * i + 2))) (((zPs Z).2.2 (6 * i + 3)))
  refine zs_aload_n (n := 297) dL_law_296 rfl rfl ?_
  refine zl_arg (j := 6 * i) (k := 1) (n := 303) rfl rfl dL_law_297 dL_law_298 dL_law_300 dL_law_301 dL_law_302 rfl (by omega) (by omega) rfl ?_
  refine zl_arg (j := 6 * i) (k := 2) (n := 309) rfl rfl dL_law_303 dL_law_304 dL_law_306 dL_law_307 dL_law_308 rfl (by omega) (by omega) rfl ?_
  refine zl_arg (j := 6 * i) (k := 3) (n := 315) rfl rfl dL_law_309 dL_law_310 dL_law_312 dL_law_313 dL_law_314 rfl (by omega) (by omega) rfl ?_
  refine zs_aload_n (n := 316) dL_law_315 rfl rfl ?_
  refine zl_W (nc := nc + 200) (ns := ns + 1000) (As := [.ref x, .int ((zPs Z).2.2 (6 * i + 1)), .int ((zPs Z).2.2 (6 * i + 2)), .int ((zPs Z).2.2 (6 * i + 3)), .ref o]) (st := []) (n := 319) dL_law_316 ok_L_setPassers ⟨ml_L_137, st_L_setPassers⟩ rfl (Nat.le_of_ble_eq_true rfl) (by simp) rfl rfl h1 hM (fun M hM => ?_)
  refine zs_istore (n := 321) dL_law_319 (by show _ < 9; omega) rfl ?_
  refine zs_aload_n (n := 322) dL_law_321 rfl rfl ?_
  refine zl_arg (j := 6 * i) (k := 1) (n := 328) rfl rfl dL_law_322 dL_law_323 dL_law_325 dL_law_326 dL_law_327 rfl (by omega) (by omega) rfl ?_
  refine zl_arg (j := 6 * i) (k := 2) (n := 334) rfl rfl dL_law_328 dL_law_329 dL_law_331 dL_law_332 dL_law_333 rfl (by omega) (by omega) rfl ?_
  refine zl_arg (j := 6 * i) (k := 3) (n := 340) rfl rfl dL_law_334 dL_law_335 dL_law_337 dL_law_338 dL_law_339 rfl (by omega) (by omega) rfl ?_
  refine zl_V (nc := nc) (ns := ns) (As := [.int ((zPs Z).2.2 (6 * i + 1)), .int ((zPs Z).2.2 (6 * i + 2)), .int ((zPs Z).2.2 (6 * i + 3))]) (st := []) (ci := 21) (n := 343) dL_law_340 ok_X16_setPassers ⟨ml_L_140, im_X16_setPassers, sl_X16_setPassers⟩ rfl (hM.kM h1.2) rfl (Nat.le_of_ble_eq_true rfl) (by simp) rfl rfl h2 hM (fun M hM => ?_)
  refine zs_istore (n := 345) dL_law_343 (by show _ < 9; omega) rfl ?_
  refine zX.sub (L' := L7 Z x m o od (6 * i) c (.int b)) ⟨rfl, rfl, rfl, rfl, rfl, rfl, rfl, rfl, trivial⟩ ?_
  exact zl_tI (pc := 345) dL_law_345 dL_law_346 dL_law_349 dL_law_351 dL_law_356 dL_law_358 dL_law_361 dL_law_362 dL_law_363 dL_law_364 dL_law_366 dL_law_367 dL_law_368 dL_law_373 (by decide) h5 hM h3 h4 (fun M hM => kk S2 M h5 hM)
theorem lc_2 (hi : 6 * i + 6 ≤ (zPs Z).2.1) (hN : (zPs Z).2.1 ≤ 4000) (hS : rRel S) (hM : zR Z x m o od S M) (kk : ∀ S' M', rRel S' → zR Z x m o od S' M' → zX Z l 12 (mth_L nm hh) 2314 (LL Z x m o od (6 * i)) [] M' nc ns Q) : zX Z l 12 (mth_L nm hh) 376 (LL Z x m o od (6 * i)) [] M (nc + 200 + 200) (ns + 1000 + 1000) Q := by
  obtain ⟨c, b, S1, S2, h1, h2, h3, h4, h5⟩ := op_passersAt (Z := Z) (l := l) (x := x) (m := m) (o := o) (od := od) hS (((zPs Z).2.2 (6 * i + 1))) (((zPs Z).2.2 (6 * i + 2)))
  refine zs_aload_n (n := 377) dL_law_376 rfl rfl ?_
  refine zl_arg (j := 6 * i) (k := 1) (n := 383) rfl rfl dL_law_377 dL_law_378 dL_law_380 dL_law_381 dL_law_382 rfl (by omega) (by omega) rfl ?_
  refine zl_arg (j := 6 * i) (k := 2) (n := 389) rfl rfl dL_law_383 dL_law_384 dL_law_386 dL_law_387 dL_law_388 rfl (by omega) (by omega) rfl ?_
  refine zs_aload_n (n := 390) dL_law_389 rfl rfl ?_
  refine zl_W (nc := nc + 200) (ns := ns + 1000) (As := [.ref x, .int ((zPs Z).2.2 (6 * i + 1)), .int ((zPs Z).2.2 (6 * i + 2)), .ref o]) (st := []) (n := 393) dL_law_390 ok_L_passersAt ⟨ml_L_141, st_L_passersAt⟩ rfl (Nat.le_of_ble_eq_true rfl) (by simp) rfl rfl h1 hM (fun M hM => ?_)
  refine zs_istore (n := 395) dL_law_393 (by show _ < 9; omega) rfl ?_
  refine zs_aload_n (n := 396) dL_law_395 rfl rfl ?_
  refine zl_arg (j := 6 * i) (k := 1) (n := 402) rfl rfl dL_law_396 dL_law_397 dL_law_399 dL_law_400 dL_law_401 rfl (by omega) (by omega) rfl ?_
  refine zl_arg (j := 6 * i) (k := 2) (n := 408) rfl rfl dL_law_402 dL_law_403 dL_law_405 dL_law_406 dL_law_407 rfl (by omega) (by omega) rfl ?_
  refine zl_V (nc := nc) (ns := ns) (As := [.int ((zPs Z).2.2 (6 * i + 1)), .int ((zPs Z).2.2 (6 * i + 2))]) (st := []) (ci := 21) (n := 411) dL_law_408 ok_X16_passersAt ⟨ml_L_144, im_X16_passersAt, sl_X16_passersAt⟩ rfl (hM.kM h1.2) rfl (Nat.le_of_ble_eq_true rfl) (by simp) rfl rfl h2 hM (fun M hM => ?_)
  refine zs_istore (n := 413) dL_law_411 (by show _ < 9; omega) rfl ?_
  refine zX.sub (L' := L7 Z x m o od (6 * i) c (.int b)) ⟨rfl, rfl, rfl, rfl, rfl, rfl, rfl, rfl, trivial⟩ ?_
  exact zl_tI (pc := 413) dL_law_413 dL_law_414 dL_law_417 dL_law_419 dL_law_424 dL_law_426 dL_law_429 dL_law_430 dL_law_431 dL_law_432 dL_law_434 dL_law_435 dL_law_436 dL_law_441 (by decide) h5 hM h3 h4 (fun M hM => kk S2 M h5 hM)
theorem lc_3 (hi : 6 * i + 6 ≤ (zPs Z).2.1) (hN : (zPs Z).2.1 ≤ 4000) (hS : rRel S) (hM : zR Z x m o od S M) (kk : ∀ S' M', rRel S' → zR Z x m o od S' M' → zX Z l 12 (mth_L nm hh) 2314 (LL Z x m o od (6 * i)) [] M' nc ns Q) : zX Z l 12 (mth_L nm hh) 444 (LL Z x m o od (6 * i)) [] M (nc + 200 + 200) (ns + 1000 + 1000) Q := by
  obtain ⟨c, b, S1, S2, h1, h2, h3, h4, h5⟩ := op_addAct (Z := Z) (l := l) (x := x) (m := m) (o := o) (od := od) hS (((zPs Z).2.2 (6 * i + 1))) (((zPs Z).2.2 (6 * i + 2))) (((zPs Z).2.2 (6 * i + 3))) (((zPs Z).2.2 (6 * i + 4))) ((if ((zPs Z).2.2 (6 * i + 5)) = 0 then 0 else 1)) (by split <;> first | exact Or.inl rfl | exact Or.inr rfl)
  refine zs_aload_n (n := 445) dL_law_444 rfl rfl ?_
  refine zl_arg (j := 6 * i) (k := 1) (n := 451) rfl rfl dL_law_445 dL_law_446 dL_law_448 dL_law_449 dL_law_450 rfl (by omega) (by omega) rfl ?_
  refine zl_arg (j := 6 * i) (k := 2) (n := 457) rfl rfl dL_law_451 dL_law_452 dL_law_454 dL_law_455 dL_law_456 rfl (by omega) (by omega) rfl ?_
  refine zl_arg (j := 6 * i) (k := 3) (n := 463) rfl rfl dL_law_457 dL_law_458 dL_law_460 dL_law_461 dL_law_462 rfl (by omega) (by omega) rfl ?_
  refine zl_arg (j := 6 * i) (k := 4) (n := 469) rfl rfl dL_law_463 dL_law_464 dL_law_466 dL_law_467 dL_law_468 rfl (by omega) (by omega) rfl ?_
  refine zl_arg (j := 6 * i) (k := 5) (n := 475) rfl rfl dL_law_469 dL_law_470 dL_law_472 dL_law_473 dL_law_474 rfl (by omega) (by omega) rfl ?_
  refine zl_bool (n := 483) dL_law_475 dL_law_478 dL_law_479 dL_law_482 rfl ?_
  refine zs_aload_n (n := 484) dL_law_483 rfl rfl ?_
  refine zl_W (nc := nc + 200) (ns := ns + 1000) (As := [.ref x, .int ((zPs Z).2.2 (6 * i + 1)), .int ((zPs Z).2.2 (6 * i + 2)), .int ((zPs Z).2.2 (6 * i + 3)), .int ((zPs Z).2.2 (6 * i + 4)), .int (if ((zPs Z).2.2 (6 * i + 5)) = 0 then 0 else 1), .ref o]) (st := []) (n := 487) dL_law_484 ok_L_addAct ⟨ml_L_145, st_L_addAct⟩ rfl (Nat.le_of_ble_eq_true rfl) (by simp) rfl rfl h1 hM (fun M hM => ?_)
  refine zs_istore (n := 489) dL_law_487 (by show _ < 9; omega) rfl ?_
  refine zs_aload_n (n := 490) dL_law_489 rfl rfl ?_
  refine zl_arg (j := 6 * i) (k := 1) (n := 496) rfl rfl dL_law_490 dL_law_491 dL_law_493 dL_law_494 dL_law_495 rfl (by omega) (by omega) rfl ?_
  refine zl_arg (j := 6 * i) (k := 2) (n := 502) rfl rfl dL_law_496 dL_law_497 dL_law_499 dL_law_500 dL_law_501 rfl (by omega) (by omega) rfl ?_
  refine zl_arg (j := 6 * i) (k := 3) (n := 508) rfl rfl dL_law_502 dL_law_503 dL_law_505 dL_law_506 dL_law_507 rfl (by omega) (by omega) rfl ?_
  refine zl_arg (j := 6 * i) (k := 4) (n := 514) rfl rfl dL_law_508 dL_law_509 dL_law_511 dL_law_512 dL_law_513 rfl (by omega) (by omega) rfl ?_
  refine zl_arg (j := 6 * i) (k := 5) (n := 520) rfl rfl dL_law_514 dL_law_515 dL_law_517 dL_law_518 dL_law_519 rfl (by omega) (by omega) rfl ?_
  refine zl_bool (n := 528) dL_law_520 dL_law_523 dL_law_524 dL_law_527 rfl ?_
  refine zl_V (nc := nc) (ns := ns) (As := [.int ((zPs Z).2.2 (6 * i + 1)), .int ((zPs Z).2.2 (6 * i + 2)), .int ((zPs Z).2.2 (6 * i + 3)), .int ((zPs Z).2.2 (6 * i + 4)), .int (if ((zPs Z).2.2 (6 * i + 5)) = 0 then 0 else 1)]) (st := []) (ci := 21) (n := 531) dL_law_528 ok_X16_addAct ⟨ml_L_148, im_X16_addAct, sl_X16_addAct⟩ rfl (hM.kM h1.2) rfl (Nat.le_of_ble_eq_true rfl) (by simp) rfl rfl h2 hM (fun M hM => ?_)
  refine zs_istore (n := 533) dL_law_531 (by show _ < 9; omega) rfl ?_
  refine zX.sub (L' := L7 Z x m o od (6 * i) c (.int b)) ⟨rfl, rfl, rfl, rfl, rfl, rfl, rfl, rfl, trivial⟩ ?_
  exact zl_tI (pc := 533) dL_law_533 dL_law_534 dL_law_537 dL_law_539 dL_law_544 dL_law_546 dL_law_549 dL_law_550 dL_law_551 dL_law_552 dL_law_554 dL_law_555 dL_law_556 dL_law_561 (by decide) h5 hM h3 h4 (fun M hM => kk S2 M h5 hM)
theorem lc_4 (hi : 6 * i + 6 ≤ (zPs Z).2.1) (hN : (zPs Z).2.1 ≤ 4000) (hS : rRel S) (hM : zR Z x m o od S M) (kk : ∀ S' M', rRel S' → zR Z x m o od S' M' → zX Z l 12 (mth_L nm hh) 2314 (LL Z x m o od (6 * i)) [] M' nc ns Q) : zX Z l 12 (mth_L nm hh) 564 (LL Z x m o od (6 * i)) [] M (nc + 200 + 200) (ns + 1000 + 1000) Q := by
  obtain ⟨c, b, S1, S2, h1, h2, h3, h4, h5⟩ := op_setLine (Z := Z) (l := l) (x := x) (m := m) (o := o) (od := od) hS (((zPs Z).2.2 (6 * i + 1))) (((zPs Z).2.2 (6 * i + 2)))
  refine zs_aload_n (n := 565) dL_law_564 rfl rfl ?_
  refine zl_arg (j := 6 * i) (k := 1) (n := 571) rfl rfl dL_law_565 dL_law_566 dL_law_568 dL_law_569 dL_law_570 rfl (by omega) (by omega) rfl ?_
  refine zl_arg (j := 6 * i) (k := 2) (n := 577) rfl rfl dL_law_571 dL_law_572 dL_law_574 dL_law_575 dL_law_576 rfl (by omega) (by omega) rfl ?_
  refine zs_aload_n (n := 578) dL_law_577 rfl rfl ?_
  refine zl_W (nc := nc + 200) (ns := ns + 1000) (As := [.ref x, .int ((zPs Z).2.2 (6 * i + 1)), .int ((zPs Z).2.2 (6 * i + 2)), .ref o]) (st := []) (n := 581) dL_law_578 ok_L_setLine ⟨ml_L_149, st_L_setLine⟩ rfl (Nat.le_of_ble_eq_true rfl) (by simp) rfl rfl h1 hM (fun M hM => ?_)
  refine zs_istore (n := 583) dL_law_581 (by show _ < 9; omega) rfl ?_
  refine zs_aload_n (n := 584) dL_law_583 rfl rfl ?_
  refine zl_arg (j := 6 * i) (k := 1) (n := 590) rfl rfl dL_law_584 dL_law_585 dL_law_587 dL_law_588 dL_law_589 rfl (by omega) (by omega) rfl ?_
  refine zl_arg (j := 6 * i) (k := 2) (n := 596) rfl rfl dL_law_590 dL_law_591 dL_law_593 dL_law_594 dL_law_595 rfl (by omega) (by omega) rfl ?_
  refine zl_V (nc := nc) (ns := ns) (As := [.int ((zPs Z).2.2 (6 * i + 1)), .int ((zPs Z).2.2 (6 * i + 2))]) (st := []) (ci := 21) (n := 599) dL_law_596 ok_X16_setLine ⟨ml_L_151, im_X16_setLine, sl_X16_setLine⟩ rfl (hM.kM h1.2) rfl (Nat.le_of_ble_eq_true rfl) (by simp) rfl rfl h2 hM (fun M hM => ?_)
  refine zs_istore (n := 601) dL_law_599 (by show _ < 9; omega) rfl ?_
  refine zX.sub (L' := L7 Z x m o od (6 * i) c (.int b)) ⟨rfl, rfl, rfl, rfl, rfl, rfl, rfl, rfl, trivial⟩ ?_
  exact zl_tI (pc := 601) dL_law_601 dL_law_602 dL_law_605 dL_law_607 dL_law_612 dL_law_614 dL_law_617 dL_law_618 dL_law_619 dL_law_620 dL_law_622 dL_law_623 dL_law_624 dL_law_629 (by decide) h5 hM h3 h4 (fun M hM => kk S2 M h5 hM)
theorem lc_5 (hi : 6 * i + 6 ≤ (zPs Z).2.1) (hN : (zPs Z).2.1 ≤ 4000) (hS : rRel S) (hM : zR Z x m o od S M) (kk : ∀ S' M', rRel S' → zR Z x m o od S' M' → zX Z l 12 (mth_L nm hh) 2314 (LL Z x m o od (6 * i)) [] M' nc ns Q) : zX Z l 12 (mth_L nm hh) 632 (LL Z x m o od (6 * i)) [] M (nc + 200 + 200) (ns + 1000 + 1000) Q := by
  obtain ⟨c, b, S1, S2, h1, h2, h3, h4, h5⟩ := op_setPermit (Z := Z) (l := l) (x := x) (m := m) (o := o) (od := od) hS (((zPs Z).2.2 (6 * i + 1))) ((if ((zPs Z).2.2 (6 * i + 2)) = 0 then 0 else 1)) (by split <;> first | exact Or.inl rfl | exact Or.inr rfl)
  refine zs_aload_n (n := 633) dL_law_632 rfl rfl ?_
  refine zl_arg (j := 6 * i) (k := 1) (n := 639) rfl rfl dL_law_633 dL_law_634 dL_law_636 dL_law_637 dL_law_638 rfl (by omega) (by omega) rfl ?_
  refine zl_arg (j := 6 * i) (k := 2) (n := 645) rfl rfl dL_law_639 dL_law_640 dL_law_642 dL_law_643 dL_law_644 rfl (by omega) (by omega) rfl ?_
  refine zl_bool (n := 653) dL_law_645 dL_law_648 dL_law_649 dL_law_652 rfl ?_
  refine zs_aload_n (n := 654) dL_law_653 rfl rfl ?_
  refine zl_W (nc := nc + 200) (ns := ns + 1000) (As := [.ref x, .int ((zPs Z).2.2 (6 * i + 1)), .int (if ((zPs Z).2.2 (6 * i + 2)) = 0 then 0 else 1), .ref o]) (st := []) (n := 657) dL_law_654 ok_L_setPermit ⟨ml_L_152, st_L_setPermit⟩ rfl (Nat.le_of_ble_eq_true rfl) (by simp) rfl rfl h1 hM (fun M hM => ?_)
  refine zs_istore (n := 659) dL_law_657 (by show _ < 9; omega) rfl ?_
  refine zs_aload_n (n := 660) dL_law_659 rfl rfl ?_
  refine zl_arg (j := 6 * i) (k := 1) (n := 666) rfl rfl dL_law_660 dL_law_661 dL_law_663 dL_law_664 dL_law_665 rfl (by omega) (by omega) rfl ?_
  refine zl_arg (j := 6 * i) (k := 2) (n := 672) rfl rfl dL_law_666 dL_law_667 dL_law_669 dL_law_670 dL_law_671 rfl (by omega) (by omega) rfl ?_
  refine zl_bool (n := 680) dL_law_672 dL_law_675 dL_law_676 dL_law_679 rfl ?_
  refine zl_V (nc := nc) (ns := ns) (As := [.int ((zPs Z).2.2 (6 * i + 1)), .int (if ((zPs Z).2.2 (6 * i + 2)) = 0 then 0 else 1)]) (st := []) (ci := 21) (n := 683) dL_law_680 ok_X16_setPermit ⟨ml_L_155, im_X16_setPermit, sl_X16_setPermit⟩ rfl (hM.kM h1.2) rfl (Nat.le_of_ble_eq_true rfl) (by simp) rfl rfl h2 hM (fun M hM => ?_)
  refine zs_istore (n := 685) dL_law_683 (by show _ < 9; omega) rfl ?_
  refine zX.sub (L' := L7 Z x m o od (6 * i) c (.int b)) ⟨rfl, rfl, rfl, rfl, rfl, rfl, rfl, rfl, trivial⟩ ?_
  exact zl_tZ (pc := 685) dL_law_685 dL_law_686 dL_law_689 dL_law_691 dL_law_696 dL_law_698 dL_law_701 dL_law_702 dL_law_703 dL_law_704 dL_law_706 dL_law_709 dL_law_710 dL_law_713 dL_law_714 dL_law_715 dL_law_720 (by decide) h5 hM h3 h4 (fun M hM => kk S2 M h5 hM)
theorem lc_6 (hi : 6 * i + 6 ≤ (zPs Z).2.1) (hN : (zPs Z).2.1 ≤ 4000) (hS : rRel S) (hM : zR Z x m o od S M) (kk : ∀ S' M', rRel S' → zR Z x m o od S' M' → zX Z l 12 (mth_L nm hh) 2314 (LL Z x m o od (6 * i)) [] M' nc ns Q) : zX Z l 12 (mth_L nm hh) 723 (LL Z x m o od (6 * i)) [] M (nc + 200 + 200) (ns + 1000 + 1000) Q := by
  obtain ⟨c, b, S1, S2, h1, h2, h3, h4, h5⟩ := op_addCustom (Z := Z) (l := l) (x := x) (m := m) (o := o) (od := od) hS (((zPs Z).2.2 (6 * i + 1))) (((zPs Z).2.2 (6 * i + 2)))
  refine zs_aload_n (n := 724) dL_law_723 rfl rfl ?_
  refine zl_arg (j := 6 * i) (k := 1) (n := 730) rfl rfl dL_law_724 dL_law_725 dL_law_727 dL_law_728 dL_law_729 rfl (by omega) (by omega) rfl ?_
  refine zl_arg (j := 6 * i) (k := 2) (n := 736) rfl rfl dL_law_730 dL_law_731 dL_law_733 dL_law_734 dL_law_735 rfl (by omega) (by omega) rfl ?_
  refine zs_aload_n (n := 737) dL_law_736 rfl rfl ?_
  refine zl_W (nc := nc + 200) (ns := ns + 1000) (As := [.ref x, .int ((zPs Z).2.2 (6 * i + 1)), .int ((zPs Z).2.2 (6 * i + 2)), .ref o]) (st := []) (n := 740) dL_law_737 ok_L_addCustom ⟨ml_L_156, st_L_addCustom⟩ rfl (Nat.le_of_ble_eq_true rfl) (by simp) rfl rfl h1 hM (fun M hM => ?_)
  refine zs_istore (n := 742) dL_law_740 (by show _ < 9; omega) rfl ?_
  refine zs_aload_n (n := 743) dL_law_742 rfl rfl ?_
  refine zl_arg (j := 6 * i) (k := 1) (n := 749) rfl rfl dL_law_743 dL_law_744 dL_law_746 dL_law_747 dL_law_748 rfl (by omega) (by omega) rfl ?_
  refine zl_arg (j := 6 * i) (k := 2) (n := 755) rfl rfl dL_law_749 dL_law_750 dL_law_752 dL_law_753 dL_law_754 rfl (by omega) (by omega) rfl ?_
  refine zl_V (nc := nc) (ns := ns) (As := [.int ((zPs Z).2.2 (6 * i + 1)), .int ((zPs Z).2.2 (6 * i + 2))]) (st := []) (ci := 21) (n := 758) dL_law_755 ok_X16_addCustom ⟨ml_L_158, im_X16_addCustom, sl_X16_addCustom⟩ rfl (hM.kM h1.2) rfl (Nat.le_of_ble_eq_true rfl) (by simp) rfl rfl h2 hM (fun M hM => ?_)
  refine zs_istore (n := 760) dL_law_758 (by show _ < 9; omega) rfl ?_
  refine zX.sub (L' := L7 Z x m o od (6 * i) c (.int b)) ⟨rfl, rfl, rfl, rfl, rfl, rfl, rfl, rfl, trivial⟩ ?_
  exact zl_tZ (pc := 760) dL_law_760 dL_law_761 dL_law_764 dL_law_766 dL_law_771 dL_law_773 dL_law_776 dL_law_777 dL_law_778 dL_law_779 dL_law_781 dL_law_784 dL_law_785 dL_law_788 dL_law_789 dL_law_790 dL_law_795 (by decide) h5 hM h3 h4 (fun M hM => kk S2 M h5 hM)
theorem lc_7 (hi : 6 * i + 6 ≤ (zPs Z).2.1) (hN : (zPs Z).2.1 ≤ 4000) (hS : rRel S) (hM : zR Z x m o od S M) (kk : ∀ S' M', rRel S' → zR Z x m o od S' M' → zX Z l 12 (mth_L nm hh) 2314 (LL Z x m o od (6 * i)) [] M' nc ns Q) : zX Z l 12 (mth_L nm hh) 798 (LL Z x m o od (6 * i)) [] M (nc + 200 + 200) (ns + 1000 + 1000) Q := by
  obtain ⟨c, b, S1, S2, h1, h2, h3, h4, h5⟩ := op_endCustom (Z := Z) (l := l) (x := x) (m := m) (o := o) (od := od) hS (((zPs Z).2.2 (6 * i + 1))) (((zPs Z).2.2 (6 * i + 2)))
  refine zs_aload_n (n := 799) dL_law_798 rfl rfl ?_
  refine zl_arg (j := 6 * i) (k := 1) (n := 805) rfl rfl dL_law_799 dL_law_800 dL_law_802 dL_law_803 dL_law_804 rfl (by omega) (by omega) rfl ?_
  refine zl_arg (j := 6 * i) (k := 2) (n := 811) rfl rfl dL_law_805 dL_law_806 dL_law_808 dL_law_809 dL_law_810 rfl (by omega) (by omega) rfl ?_
  refine zs_aload_n (n := 812) dL_law_811 rfl rfl ?_
  refine zl_W (nc := nc + 200) (ns := ns + 1000) (As := [.ref x, .int ((zPs Z).2.2 (6 * i + 1)), .int ((zPs Z).2.2 (6 * i + 2)), .ref o]) (st := []) (n := 815) dL_law_812 ok_L_endCustom ⟨ml_L_159, st_L_endCustom⟩ rfl (Nat.le_of_ble_eq_true rfl) (by simp) rfl rfl h1 hM (fun M hM => ?_)
  refine zs_istore (n := 817) dL_law_815 (by show _ < 9; omega) rfl ?_
  refine zs_aload_n (n := 818) dL_law_817 rfl rfl ?_
  refine zl_arg (j := 6 * i) (k := 1) (n := 824) rfl rfl dL_law_818 dL_law_819 dL_law_821 dL_law_822 dL_law_823 rfl (by omega) (by omega) rfl ?_
  refine zl_arg (j := 6 * i) (k := 2) (n := 830) rfl rfl dL_law_824 dL_law_825 dL_law_827 dL_law_828 dL_law_829 rfl (by omega) (by omega) rfl ?_
  refine zl_V (nc := nc) (ns := ns) (As := [.int ((zPs Z).2.2 (6 * i + 1)), .int ((zPs Z).2.2 (6 * i + 2))]) (st := []) (ci := 21) (n := 833) dL_law_830 ok_X16_endCustom ⟨ml_L_161, im_X16_endCustom, sl_X16_endCustom⟩ rfl (hM.kM h1.2) rfl (Nat.le_of_ble_eq_true rfl) (by simp) rfl rfl h2 hM (fun M hM => ?_)
  refine zs_istore (n := 835) dL_law_833 (by show _ < 9; omega) rfl ?_
  refine zX.sub (L' := L7 Z x m o od (6 * i) c (.int b)) ⟨rfl, rfl, rfl, rfl, rfl, rfl, rfl, rfl, trivial⟩ ?_
  exact zl_tZ (pc := 835) dL_law_835 dL_law_836 dL_law_839 dL_law_841 dL_law_846 dL_law_848 dL_law_851 dL_law_852 dL_law_853 dL_law_854 dL_law_856 dL_law_859 dL_law_860 dL_law_863 dL_law_864 dL_law_865 dL_law_870 (by decide) h5 hM h3 h4 (fun M hM => kk S2 M h5 hM)
theorem lc_8 (hi : 6 * i + 6 ≤ (zPs Z).2.1) (hN : (zPs Z).2.1 ≤ 4000) (hS : rRel S) (hM : zR Z x m o od S M) (kk : ∀ S' M', rRel S' → zR Z x m o od S' M' → zX Z l 12 (mth_L nm hh) 2314 (LL Z x m o od (6 * i)) [] M' nc ns Q) : zX Z l 12 (mth_L nm hh) 873 (LL Z x m o od (6 * i)) [] M (nc + 200 + 200) (ns + 1000 + 1000) Q := by
  obtain ⟨v, S1, S2, hv, h1, h2, h5⟩ := op_orders (Z := Z) (l := l) (x := x) (m := m) (o := o) (od := od) hS
  obtain ⟨y, rfl⟩ := hv
  refine zs_aload_n (n := 874) dL_law_873 rfl rfl ?_
  refine zl_V (nc := nc + 200) (ns := ns + 1000) (As := []) (st := []) (ci := 16) (n := 877) dL_law_874 ok_X11_orders ⟨ml_L_162, im_X11_orders, sl_X11_orders⟩ rfl (hM.kX hS.h3) rfl (Nat.le_of_ble_eq_true rfl) (by simp) rfl rfl h1.1 hM (fun M hM => ?_)
  refine zs_aload_n (n := 878) dL_law_877 rfl rfl ?_
  refine zl_V (nc := nc) (ns := ns) (As := []) (st := [.int y]) (ci := 21) (n := 881) dL_law_878 ok_X16_orders ⟨ml_L_165, im_X16_orders, sl_X16_orders⟩ rfl (hM.kM h1.2) rfl (Nat.le_of_ble_eq_true rfl) (by simp) rfl rfl h2 hM (fun M hM => ?_)
  exact zs_icmp_eq (tgt := 2314) (n := 884) dL_law_881 (by decide) rfl (fun _ => kk S2 M h5 hM) (fun h => absurd rfl h)
theorem lc_9 (hi : 6 * i + 6 ≤ (zPs Z).2.1) (hN : (zPs Z).2.1 ≤ 4000) (hS : rRel S) (hM : zR Z x m o od S M) (kk : ∀ S' M', rRel S' → zR Z x m o od S' M' → zX Z l 12 (mth_L nm hh) 2314 (LL Z x m o od (6 * i)) [] M' nc ns Q) : zX Z l 12 (mth_L nm hh) 886 (LL Z x m o od (6 * i)) [] M (nc + 200 + 200) (ns + 1000 + 1000) Q := by
  obtain ⟨c, b, S1, S2, h1, h2, h3, h4, h5⟩ := op_orderAt (Z := Z) (l := l) (x := x) (m := m) (o := o) (od := od) hS (((zPs Z).2.2 (6 * i + 1))) (((zPs Z).2.2 (6 * i + 2)))
  refine zs_aload_n (n := 887) dL_law_886 rfl rfl ?_
  refine zl_arg (j := 6 * i) (k := 1) (n := 893) rfl rfl dL_law_887 dL_law_888 dL_law_890 dL_law_891 dL_law_892 rfl (by omega) (by omega) rfl ?_
  refine zl_arg (j := 6 * i) (k := 2) (n := 899) rfl rfl dL_law_893 dL_law_894 dL_law_896 dL_law_897 dL_law_898 rfl (by omega) (by omega) rfl ?_
  refine zs_aload_n (n := 900) dL_law_899 rfl rfl ?_
  refine zl_W (nc := nc + 200) (ns := ns + 1000) (As := [.ref x, .int ((zPs Z).2.2 (6 * i + 1)), .int ((zPs Z).2.2 (6 * i + 2)), .ref o]) (st := []) (n := 903) dL_law_900 ok_L_orderAt ⟨ml_L_166, st_L_orderAt⟩ rfl (Nat.le_of_ble_eq_true rfl) (by simp) rfl rfl h1 hM (fun M hM => ?_)
  refine zs_istore (n := 905) dL_law_903 (by show _ < 9; omega) rfl ?_
  refine zs_aload_n (n := 906) dL_law_905 rfl rfl ?_
  refine zl_arg (j := 6 * i) (k := 1) (n := 912) rfl rfl dL_law_906 dL_law_907 dL_law_909 dL_law_910 dL_law_911 rfl (by omega) (by omega) rfl ?_
  refine zl_arg (j := 6 * i) (k := 2) (n := 918) rfl rfl dL_law_912 dL_law_913 dL_law_915 dL_law_916 dL_law_917 rfl (by omega) (by omega) rfl ?_
  refine zl_V (nc := nc) (ns := ns) (As := [.int ((zPs Z).2.2 (6 * i + 1)), .int ((zPs Z).2.2 (6 * i + 2))]) (st := []) (ci := 21) (n := 921) dL_law_918 ok_X16_orderAt ⟨ml_L_168, im_X16_orderAt, sl_X16_orderAt⟩ rfl (hM.kM h1.2) rfl (Nat.le_of_ble_eq_true rfl) (by simp) rfl rfl h2 hM (fun M hM => ?_)
  refine zs_istore (n := 923) dL_law_921 (by show _ < 9; omega) rfl ?_
  refine zX.sub (L' := L7 Z x m o od (6 * i) c (.int b)) ⟨rfl, rfl, rfl, rfl, rfl, rfl, rfl, rfl, trivial⟩ ?_
  exact zl_tI (pc := 923) dL_law_923 dL_law_924 dL_law_927 dL_law_929 dL_law_934 dL_law_936 dL_law_939 dL_law_940 dL_law_941 dL_law_942 dL_law_944 dL_law_945 dL_law_946 dL_law_951 (by decide) h5 hM h3 h4 (fun M hM => kk S2 M h5 hM)
theorem lc_10 (hi : 6 * i + 6 ≤ (zPs Z).2.1) (hN : (zPs Z).2.1 ≤ 4000) (hS : rRel S) (hM : zR Z x m o od S M) (kk : ∀ S' M', rRel S' → zR Z x m o od S' M' → zX Z l 12 (mth_L nm hh) 2314 (LL Z x m o od (6 * i)) [] M' nc ns Q) : zX Z l 12 (mth_L nm hh) 954 (LL Z x m o od (6 * i)) [] M (nc + 200 + 200) (ns + 1000 + 1000) Q := by
  obtain ⟨v, S1, S2, hv, h1, h2, h5⟩ := op_drawLots (Z := Z) (l := l) (x := x) (m := m) (o := o) (od := od) hS
  obtain ⟨y, rfl⟩ := hv
  refine zs_aload_n (n := 955) dL_law_954 rfl rfl ?_
  refine zl_V (nc := nc + 200) (ns := ns + 1000) (As := []) (st := []) (ci := 16) (n := 958) dL_law_955 ok_X11_drawLots ⟨ml_L_169, im_X11_drawLots, sl_X11_drawLots⟩ rfl (hM.kX hS.h3) rfl (Nat.le_of_ble_eq_true rfl) (by simp) rfl rfl h1.1 hM (fun M hM => ?_)
  refine zs_aload_n (n := 959) dL_law_958 rfl rfl ?_
  refine zl_V (nc := nc) (ns := ns) (As := []) (st := [.int y]) (ci := 21) (n := 962) dL_law_959 ok_X16_drawLots ⟨ml_L_172, im_X16_drawLots, sl_X16_drawLots⟩ rfl (hM.kM h1.2) rfl (Nat.le_of_ble_eq_true rfl) (by simp) rfl rfl h2 hM (fun M hM => ?_)
  exact zs_icmp_eq (tgt := 2314) (n := 965) dL_law_962 (by decide) rfl (fun _ => kk S2 M h5 hM) (fun h => absurd rfl h)
theorem lc_11 (hi : 6 * i + 6 ≤ (zPs Z).2.1) (hN : (zPs Z).2.1 ≤ 4000) (hS : rRel S) (hM : zR Z x m o od S M) (kk : ∀ S' M', rRel S' → zR Z x m o od S' M' → zX Z l 12 (mth_L nm hh) 2314 (LL Z x m o od (6 * i)) [] M' nc ns Q) : zX Z l 12 (mth_L nm hh) 967 (LL Z x m o od (6 * i)) [] M (nc + 200 + 200) (ns + 1000 + 1000) Q := by
  obtain ⟨c, b, S1, S2, h1, h2, h3, h4, h5⟩ := op_lotAt (Z := Z) (l := l) (x := x) (m := m) (o := o) (od := od) hS (((zPs Z).2.2 (6 * i + 1)))
  refine zs_aload_n (n := 968) dL_law_967 rfl rfl ?_
  refine zl_arg (j := 6 * i) (k := 1) (n := 974) rfl rfl dL_law_968 dL_law_969 dL_law_971 dL_law_972 dL_law_973 rfl (by omega) (by omega) rfl ?_
  refine zs_aload_n (n := 975) dL_law_974 rfl rfl ?_
  refine zl_W (nc := nc + 200) (ns := ns + 1000) (As := [.ref x, .int ((zPs Z).2.2 (6 * i + 1)), .ref o]) (st := []) (n := 978) dL_law_975 ok_L_lotAt ⟨ml_L_173, st_L_lotAt⟩ rfl (Nat.le_of_ble_eq_true rfl) (by simp) rfl rfl h1 hM (fun M hM => ?_)
  refine zs_istore (n := 980) dL_law_978 (by show _ < 9; omega) rfl ?_
  refine zs_aload_n (n := 981) dL_law_980 rfl rfl ?_
  refine zl_arg (j := 6 * i) (k := 1) (n := 987) rfl rfl dL_law_981 dL_law_982 dL_law_984 dL_law_985 dL_law_986 rfl (by omega) (by omega) rfl ?_
  refine zl_V (nc := nc) (ns := ns) (As := [.int ((zPs Z).2.2 (6 * i + 1))]) (st := []) (ci := 21) (n := 990) dL_law_987 ok_X16_lotAt ⟨ml_L_176, im_X16_lotAt, sl_X16_lotAt⟩ rfl (hM.kM h1.2) rfl (Nat.le_of_ble_eq_true rfl) (by simp) rfl rfl h2 hM (fun M hM => ?_)
  refine zs_istore (n := 992) dL_law_990 (by show _ < 9; omega) rfl ?_
  refine zX.sub (L' := L7 Z x m o od (6 * i) c (.int b)) ⟨rfl, rfl, rfl, rfl, rfl, rfl, rfl, rfl, trivial⟩ ?_
  exact zl_tI (pc := 992) dL_law_992 dL_law_993 dL_law_996 dL_law_998 dL_law_1003 dL_law_1005 dL_law_1008 dL_law_1009 dL_law_1010 dL_law_1011 dL_law_1013 dL_law_1014 dL_law_1015 dL_law_1020 (by decide) h5 hM h3 h4 (fun M hM => kk S2 M h5 hM)
theorem lc_12 (hi : 6 * i + 6 ≤ (zPs Z).2.1) (hN : (zPs Z).2.1 ≤ 4000) (hS : rRel S) (hM : zR Z x m o od S M) (kk : ∀ S' M', rRel S' → zR Z x m o od S' M' → zX Z l 12 (mth_L nm hh) 2314 (LL Z x m o od (6 * i)) [] M' nc ns Q) : zX Z l 12 (mth_L nm hh) 1023 (LL Z x m o od (6 * i)) [] M (nc + 200 + 200) (ns + 1000 + 1000) Q := by
  obtain ⟨c, b, S1, S2, h1, h2, h3, h4, h5⟩ := op_seed (Z := Z) (l := l) (x := x) (m := m) (o := o) (od := od) hS (((zPs Z).2.2 (6 * i + 1)))
  refine zs_aload_n (n := 1024) dL_law_1023 rfl rfl ?_
  refine zl_arg (j := 6 * i) (k := 1) (n := 1030) rfl rfl dL_law_1024 dL_law_1025 dL_law_1027 dL_law_1028 dL_law_1029 rfl (by omega) (by omega) rfl ?_
  refine zs_aload_n (n := 1031) dL_law_1030 rfl rfl ?_
  refine zl_W (nc := nc + 200) (ns := ns + 1000) (As := [.ref x, .int ((zPs Z).2.2 (6 * i + 1)), .ref o]) (st := []) (n := 1034) dL_law_1031 ok_L_seed ⟨ml_L_177, st_L_seed⟩ rfl (Nat.le_of_ble_eq_true rfl) (by simp) rfl rfl h1 hM (fun M hM => ?_)
  refine zs_istore (n := 1036) dL_law_1034 (by show _ < 9; omega) rfl ?_
  refine zs_aload_n (n := 1037) dL_law_1036 rfl rfl ?_
  refine zl_arg (j := 6 * i) (k := 1) (n := 1043) rfl rfl dL_law_1037 dL_law_1038 dL_law_1040 dL_law_1041 dL_law_1042 rfl (by omega) (by omega) rfl ?_
  refine zl_V (nc := nc) (ns := ns) (As := [.int ((zPs Z).2.2 (6 * i + 1))]) (st := []) (ci := 21) (n := 1046) dL_law_1043 ok_X16_seed ⟨ml_L_179, im_X16_seed, sl_X16_seed⟩ rfl (hM.kM h1.2) rfl (Nat.le_of_ble_eq_true rfl) (by simp) rfl rfl h2 hM (fun M hM => ?_)
  refine zs_istore (n := 1048) dL_law_1046 (by show _ < 9; omega) rfl ?_
  refine zX.sub (L' := L7 Z x m o od (6 * i) c (.int b)) ⟨rfl, rfl, rfl, rfl, rfl, rfl, rfl, rfl, trivial⟩ ?_
  exact zl_tI (pc := 1048) dL_law_1048 dL_law_1049 dL_law_1052 dL_law_1054 dL_law_1059 dL_law_1061 dL_law_1064 dL_law_1065 dL_law_1066 dL_law_1067 dL_law_1069 dL_law_1070 dL_law_1071 dL_law_1076 (by decide) h5 hM h3 h4 (fun M hM => kk S2 M h5 hM)
theorem lc_13 (hi : 6 * i + 6 ≤ (zPs Z).2.1) (hN : (zPs Z).2.1 ≤ 4000) (hS : rRel S) (hM : zR Z x m o od S M) (kk : ∀ S' M', rRel S' → zR Z x m o od S' M' → zX Z l 12 (mth_L nm hh) 2314 (LL Z x m o od (6 * i)) [] M' nc ns Q) : zX Z l 12 (mth_L nm hh) 1079 (LL Z x m o od (6 * i)) [] M (nc + 200 + 200) (ns + 1000 + 1000) Q := by
  obtain ⟨c, b, S1, S2, h1, h2, h3, h4, h5⟩ := op_addTurn (Z := Z) (l := l) (x := x) (m := m) (o := o) (od := od) hS (((zPs Z).2.2 (6 * i + 1))) (((zPs Z).2.2 (6 * i + 2)))
  refine zs_aload_n (n := 1080) dL_law_1079 rfl rfl ?_
  refine zl_arg (j := 6 * i) (k := 1) (n := 1086) rfl rfl dL_law_1080 dL_law_1081 dL_law_1083 dL_law_1084 dL_law_1085 rfl (by omega) (by omega) rfl ?_
  refine zl_arg (j := 6 * i) (k := 2) (n := 1092) rfl rfl dL_law_1086 dL_law_1087 dL_law_1089 dL_law_1090 dL_law_1091 rfl (by omega) (by omega) rfl ?_
  refine zs_aload_n (n := 1093) dL_law_1092 rfl rfl ?_
  refine zl_W (nc := nc + 200) (ns := ns + 1000) (As := [.ref x, .int ((zPs Z).2.2 (6 * i + 1)), .int ((zPs Z).2.2 (6 * i + 2)), .ref o]) (st := []) (n := 1096) dL_law_1093 ok_L_addTurn ⟨ml_L_180, st_L_addTurn⟩ rfl (Nat.le_of_ble_eq_true rfl) (by simp) rfl rfl h1 hM (fun M hM => ?_)
  refine zs_istore (n := 1098) dL_law_1096 (by show _ < 9; omega) rfl ?_
  refine zs_aload_n (n := 1099) dL_law_1098 rfl rfl ?_
  refine zl_arg (j := 6 * i) (k := 1) (n := 1105) rfl rfl dL_law_1099 dL_law_1100 dL_law_1102 dL_law_1103 dL_law_1104 rfl (by omega) (by omega) rfl ?_
  refine zl_arg (j := 6 * i) (k := 2) (n := 1111) rfl rfl dL_law_1105 dL_law_1106 dL_law_1108 dL_law_1109 dL_law_1110 rfl (by omega) (by omega) rfl ?_
  refine zl_V (nc := nc) (ns := ns) (As := [.int ((zPs Z).2.2 (6 * i + 1)), .int ((zPs Z).2.2 (6 * i + 2))]) (st := []) (ci := 21) (n := 1114) dL_law_1111 ok_X16_addTurn ⟨ml_L_182, im_X16_addTurn, sl_X16_addTurn⟩ rfl (hM.kM h1.2) rfl (Nat.le_of_ble_eq_true rfl) (by simp) rfl rfl h2 hM (fun M hM => ?_)
  refine zs_istore (n := 1116) dL_law_1114 (by show _ < 9; omega) rfl ?_
  refine zX.sub (L' := L7 Z x m o od (6 * i) c (.int b)) ⟨rfl, rfl, rfl, rfl, rfl, rfl, rfl, rfl, trivial⟩ ?_
  exact zl_tI (pc := 1116) dL_law_1116 dL_law_1117 dL_law_1120 dL_law_1122 dL_law_1127 dL_law_1129 dL_law_1132 dL_law_1133 dL_law_1134 dL_law_1135 dL_law_1137 dL_law_1138 dL_law_1139 dL_law_1144 (by decide) h5 hM h3 h4 (fun M hM => kk S2 M h5 hM)
theorem lc_14 (hi : 6 * i + 6 ≤ (zPs Z).2.1) (hN : (zPs Z).2.1 ≤ 4000) (hS : rRel S) (hM : zR Z x m o od S M) (kk : ∀ S' M', rRel S' → zR Z x m o od S' M' → zX Z l 12 (mth_L nm hh) 2314 (LL Z x m o od (6 * i)) [] M' nc ns Q) : zX Z l 12 (mth_L nm hh) 1147 (LL Z x m o od (6 * i)) [] M (nc + 200 + 200) (ns + 1000 + 1000) Q := by
  obtain ⟨c, b, S1, S2, h1, h2, h3, h4, h5⟩ := op_turnsByLots (Z := Z) (l := l) (x := x) (m := m) (o := o) (od := od) hS 
  refine zs_aload_n (n := 1148) dL_law_1147 rfl rfl ?_
  refine zs_aload_n (n := 1149) dL_law_1148 rfl rfl ?_
  refine zl_W (nc := nc + 200) (ns := ns + 1000) (As := [.ref x, .ref o]) (st := []) (n := 1152) dL_law_1149 ok_L_turnsByLots ⟨ml_L_183, st_L_turnsByLots⟩ rfl (Nat.le_of_ble_eq_true rfl) (by simp) rfl rfl h1 hM (fun M hM => ?_)
  refine zs_istore (n := 1154) dL_law_1152 (by show _ < 9; omega) rfl ?_
  refine zs_aload_n (n := 1155) dL_law_1154 rfl rfl ?_
  refine zl_V (nc := nc) (ns := ns) (As := []) (st := []) (ci := 21) (n := 1158) dL_law_1155 ok_X16_turnsByLots ⟨ml_L_186, im_X16_turnsByLots, sl_X16_turnsByLots⟩ rfl (hM.kM h1.2) rfl (Nat.le_of_ble_eq_true rfl) (by simp) rfl rfl h2 hM (fun M hM => ?_)
  refine zs_istore (n := 1160) dL_law_1158 (by show _ < 9; omega) rfl ?_
  refine zX.sub (L' := L7 Z x m o od (6 * i) c (.int b)) ⟨rfl, rfl, rfl, rfl, rfl, rfl, rfl, rfl, trivial⟩ ?_
  exact zl_tI (pc := 1160) dL_law_1160 dL_law_1161 dL_law_1164 dL_law_1166 dL_law_1171 dL_law_1173 dL_law_1176 dL_law_1177 dL_law_1178 dL_law_1179 dL_law_1181 dL_law_1182 dL_law_1183 dL_law_1188 (by decide) h5 hM h3 h4 (fun M hM => kk S2 M h5 hM)
theorem lc_15 (hi : 6 * i + 6 ≤ (zPs Z).2.1) (hN : (zPs Z).2.1 ≤ 4000) (hS : rRel S) (hM : zR Z x m o od S M) (kk : ∀ S' M', rRel S' → zR Z x m o od S' M' → zX Z l 12 (mth_L nm hh) 2314 (LL Z x m o od (6 * i)) [] M' nc ns Q) : zX Z l 12 (mth_L nm hh) 1191 (LL Z x m o od (6 * i)) [] M (nc + 200 + 200) (ns + 1000 + 1000) Q := by
  obtain ⟨c, b, S1, S2, h1, h2, h3, h4, h5⟩ := op_exchange (Z := Z) (l := l) (x := x) (m := m) (o9 := o) (od := od) hS (((zPs Z).2.2 (6 * i + 1))) (((zPs Z).2.2 (6 * i + 2))) (((zPs Z).2.2 (6 * i + 3)))
  refine zs_aload_n (n := 1192) dL_law_1191 rfl rfl ?_
  refine zl_arg (j := 6 * i) (k := 1) (n := 1198) rfl rfl dL_law_1192 dL_law_1193 dL_law_1195 dL_law_1196 dL_law_1197 rfl (by omega) (by omega) rfl ?_
  refine zl_arg (j := 6 * i) (k := 2) (n := 1204) rfl rfl dL_law_1198 dL_law_1199 dL_law_1201 dL_law_1202 dL_law_1203 rfl (by omega) (by omega) rfl ?_
  refine zl_arg (j := 6 * i) (k := 3) (n := 1210) rfl rfl dL_law_1204 dL_law_1205 dL_law_1207 dL_law_1208 dL_law_1209 rfl (by omega) (by omega) rfl ?_
  refine zs_aload_n (n := 1211) dL_law_1210 rfl rfl ?_
  refine zl_W (nc := nc + 200) (ns := ns + 1000) (As := [.ref x, .int ((zPs Z).2.2 (6 * i + 1)), .int ((zPs Z).2.2 (6 * i + 2)), .int ((zPs Z).2.2 (6 * i + 3)), .ref o]) (st := []) (n := 1214) dL_law_1211 ok_L_exchange ⟨ml_L_187, st_L_exchange⟩ rfl (Nat.le_of_ble_eq_true rfl) (by simp) rfl rfl h1 hM (fun M hM => ?_)
  refine zs_istore (n := 1216) dL_law_1214 (by show _ < 9; omega) rfl ?_
  refine zs_aload_n (n := 1217) dL_law_1216 rfl rfl ?_
  refine zl_arg (j := 6 * i) (k := 1) (n := 1223) rfl rfl dL_law_1217 dL_law_1218 dL_law_1220 dL_law_1221 dL_law_1222 rfl (by omega) (by omega) rfl ?_
  refine zl_arg (j := 6 * i) (k := 2) (n := 1229) rfl rfl dL_law_1223 dL_law_1224 dL_law_1226 dL_law_1227 dL_law_1228 rfl (by omega) (by omega) rfl ?_
  refine zl_arg (j := 6 * i) (k := 3) (n := 1235) rfl rfl dL_law_1229 dL_law_1230 dL_law_1232 dL_law_1233 dL_law_1234 rfl (by omega) (by omega) rfl ?_
  refine zl_V (nc := nc) (ns := ns) (As := [.int ((zPs Z).2.2 (6 * i + 1)), .int ((zPs Z).2.2 (6 * i + 2)), .int ((zPs Z).2.2 (6 * i + 3))]) (st := []) (ci := 21) (n := 1238) dL_law_1235 ok_X16_exchange ⟨ml_L_189, im_X16_exchange, sl_X16_exchange⟩ rfl (hM.kM h1.2) rfl (Nat.le_of_ble_eq_true rfl) (by simp) rfl rfl h2 hM (fun M hM => ?_)
  refine zs_istore (n := 1240) dL_law_1238 (by show _ < 9; omega) rfl ?_
  refine zX.sub (L' := L7 Z x m o od (6 * i) c (.int b)) ⟨rfl, rfl, rfl, rfl, rfl, rfl, rfl, rfl, trivial⟩ ?_
  exact zl_tZ (pc := 1240) dL_law_1240 dL_law_1241 dL_law_1244 dL_law_1246 dL_law_1251 dL_law_1253 dL_law_1256 dL_law_1257 dL_law_1258 dL_law_1259 dL_law_1261 dL_law_1264 dL_law_1265 dL_law_1268 dL_law_1269 dL_law_1270 dL_law_1275 (by decide) h5 hM h3 h4 (fun M hM => kk S2 M h5 hM)
theorem lc_16 (hi : 6 * i + 6 ≤ (zPs Z).2.1) (hN : (zPs Z).2.1 ≤ 4000) (hS : rRel S) (hM : zR Z x m o od S M) (kk : ∀ S' M', rRel S' → zR Z x m o od S' M' → zX Z l 12 (mth_L nm hh) 2314 (LL Z x m o od (6 * i)) [] M' nc ns Q) : zX Z l 12 (mth_L nm hh) 1278 (LL Z x m o od (6 * i)) [] M (nc + 200 + 200) (ns + 1000 + 1000) Q := by
  obtain ⟨c, b, S1, S2, h1, h2, h3, h4, h5⟩ := op_turnAt (Z := Z) (l := l) (x := x) (m := m) (o := o) (od := od) hS (((zPs Z).2.2 (6 * i + 1))) (((zPs Z).2.2 (6 * i + 2)))
  refine zs_aload_n (n := 1279) dL_law_1278 rfl rfl ?_
  refine zl_arg (j := 6 * i) (k := 1) (n := 1285) rfl rfl dL_law_1279 dL_law_1280 dL_law_1282 dL_law_1283 dL_law_1284 rfl (by omega) (by omega) rfl ?_
  refine zl_arg (j := 6 * i) (k := 2) (n := 1291) rfl rfl dL_law_1285 dL_law_1286 dL_law_1288 dL_law_1289 dL_law_1290 rfl (by omega) (by omega) rfl ?_
  refine zs_aload_n (n := 1292) dL_law_1291 rfl rfl ?_
  refine zl_W (nc := nc + 200) (ns := ns + 1000) (As := [.ref x, .int ((zPs Z).2.2 (6 * i + 1)), .int ((zPs Z).2.2 (6 * i + 2)), .ref o]) (st := []) (n := 1295) dL_law_1292 ok_L_turnAt ⟨ml_L_190, st_L_turnAt⟩ rfl (Nat.le_of_ble_eq_true rfl) (by simp) rfl rfl h1 hM (fun M hM => ?_)
  refine zs_istore (n := 1297) dL_law_1295 (by show _ < 9; omega) rfl ?_
  refine zs_aload_n (n := 1298) dL_law_1297 rfl rfl ?_
  refine zl_arg (j := 6 * i) (k := 1) (n := 1304) rfl rfl dL_law_1298 dL_law_1299 dL_law_1301 dL_law_1302 dL_law_1303 rfl (by omega) (by omega) rfl ?_
  refine zl_arg (j := 6 * i) (k := 2) (n := 1310) rfl rfl dL_law_1304 dL_law_1305 dL_law_1307 dL_law_1308 dL_law_1309 rfl (by omega) (by omega) rfl ?_
  refine zl_V (nc := nc) (ns := ns) (As := [.int ((zPs Z).2.2 (6 * i + 1)), .int ((zPs Z).2.2 (6 * i + 2))]) (st := []) (ci := 21) (n := 1313) dL_law_1310 ok_X16_turnAt ⟨ml_L_192, im_X16_turnAt, sl_X16_turnAt⟩ rfl (hM.kM h1.2) rfl (Nat.le_of_ble_eq_true rfl) (by simp) rfl rfl h2 hM (fun M hM => ?_)
  refine zs_istore (n := 1315) dL_law_1313 (by show _ < 9; omega) rfl ?_
  refine zX.sub (L' := L7 Z x m o od (6 * i) c (.int b)) ⟨rfl, rfl, rfl, rfl, rfl, rfl, rfl, rfl, trivial⟩ ?_
  exact zl_tI (pc := 1315) dL_law_1315 dL_law_1316 dL_law_1319 dL_law_1321 dL_law_1326 dL_law_1328 dL_law_1331 dL_law_1332 dL_law_1333 dL_law_1334 dL_law_1336 dL_law_1337 dL_law_1338 dL_law_1343 (by decide) h5 hM h3 h4 (fun M hM => kk S2 M h5 hM)
theorem lc_17 (hi : 6 * i + 6 ≤ (zPs Z).2.1) (hN : (zPs Z).2.1 ≤ 4000) (hS : rRel S) (hM : zR Z x m o od S M) (kk : ∀ S' M', rRel S' → zR Z x m o od S' M' → zX Z l 12 (mth_L nm hh) 2314 (LL Z x m o od (6 * i)) [] M' nc ns Q) : zX Z l 12 (mth_L nm hh) 1346 (LL Z x m o od (6 * i)) [] M (nc + 200 + 200) (ns + 1000 + 1000) Q := by
  obtain ⟨c, b, S1, S2, h1, h2, h3, h4, h5⟩ := op_setRain (Z := Z) (l := l) (x := x) (m := m) (o := o) (od := od) hS (((zPs Z).2.2 (6 * i + 1))) (((zPs Z).2.2 (6 * i + 2)))
  refine zs_aload_n (n := 1347) dL_law_1346 rfl rfl ?_
  refine zl_arg (j := 6 * i) (k := 1) (n := 1353) rfl rfl dL_law_1347 dL_law_1348 dL_law_1350 dL_law_1351 dL_law_1352 rfl (by omega) (by omega) rfl ?_
  refine zl_arg (j := 6 * i) (k := 2) (n := 1359) rfl rfl dL_law_1353 dL_law_1354 dL_law_1356 dL_law_1357 dL_law_1358 rfl (by omega) (by omega) rfl ?_
  refine zs_aload_n (n := 1360) dL_law_1359 rfl rfl ?_
  refine zl_W (nc := nc + 200) (ns := ns + 1000) (As := [.ref x, .int ((zPs Z).2.2 (6 * i + 1)), .int ((zPs Z).2.2 (6 * i + 2)), .ref o]) (st := []) (n := 1363) dL_law_1360 ok_L_setRain ⟨ml_L_193, st_L_setRain⟩ rfl (Nat.le_of_ble_eq_true rfl) (by simp) rfl rfl h1 hM (fun M hM => ?_)
  refine zs_istore (n := 1365) dL_law_1363 (by show _ < 9; omega) rfl ?_
  refine zs_aload_n (n := 1366) dL_law_1365 rfl rfl ?_
  refine zl_arg (j := 6 * i) (k := 1) (n := 1372) rfl rfl dL_law_1366 dL_law_1367 dL_law_1369 dL_law_1370 dL_law_1371 rfl (by omega) (by omega) rfl ?_
  refine zl_arg (j := 6 * i) (k := 2) (n := 1378) rfl rfl dL_law_1372 dL_law_1373 dL_law_1375 dL_law_1376 dL_law_1377 rfl (by omega) (by omega) rfl ?_
  refine zl_V (nc := nc) (ns := ns) (As := [.int ((zPs Z).2.2 (6 * i + 1)), .int ((zPs Z).2.2 (6 * i + 2))]) (st := []) (ci := 21) (n := 1381) dL_law_1378 ok_X16_setRain ⟨ml_L_195, im_X16_setRain, sl_X16_setRain⟩ rfl (hM.kM h1.2) rfl (Nat.le_of_ble_eq_true rfl) (by simp) rfl rfl h2 hM (fun M hM => ?_)
  refine zs_istore (n := 1383) dL_law_1381 (by show _ < 9; omega) rfl ?_
  refine zX.sub (L' := L7 Z x m o od (6 * i) c (.int b)) ⟨rfl, rfl, rfl, rfl, rfl, rfl, rfl, rfl, trivial⟩ ?_
  exact zl_tI (pc := 1383) dL_law_1383 dL_law_1384 dL_law_1387 dL_law_1389 dL_law_1394 dL_law_1396 dL_law_1399 dL_law_1400 dL_law_1401 dL_law_1402 dL_law_1404 dL_law_1405 dL_law_1406 dL_law_1411 (by decide) h5 hM h3 h4 (fun M hM => kk S2 M h5 hM)
theorem lc_18 (hi : 6 * i + 6 ≤ (zPs Z).2.1) (hN : (zPs Z).2.1 ≤ 4000) (hS : rRel S) (hM : zR Z x m o od S M) (kk : ∀ S' M', rRel S' → zR Z x m o od S' M' → zX Z l 12 (mth_L nm hh) 2314 (LL Z x m o od (6 * i)) [] M' nc ns Q) : zX Z l 12 (mth_L nm hh) 1414 (LL Z x m o od (6 * i)) [] M (nc + 200 + 200) (ns + 1000 + 1000) Q := by
  obtain ⟨c, b, S1, S2, h1, h2, h3, h4, h5⟩ := op_setCold (Z := Z) (l := l) (x := x) (m := m) (o := o) (od := od) hS (((zPs Z).2.2 (6 * i + 1)))
  refine zs_aload_n (n := 1415) dL_law_1414 rfl rfl ?_
  refine zl_arg (j := 6 * i) (k := 1) (n := 1421) rfl rfl dL_law_1415 dL_law_1416 dL_law_1418 dL_law_1419 dL_law_1420 rfl (by omega) (by omega) rfl ?_
  refine zs_aload_n (n := 1422) dL_law_1421 rfl rfl ?_
  refine zl_W (nc := nc + 200) (ns := ns + 1000) (As := [.ref x, .int ((zPs Z).2.2 (6 * i + 1)), .ref o]) (st := []) (n := 1425) dL_law_1422 ok_L_setCold ⟨ml_L_196, st_L_setCold⟩ rfl (Nat.le_of_ble_eq_true rfl) (by simp) rfl rfl h1 hM (fun M hM => ?_)
  refine zs_istore (n := 1427) dL_law_1425 (by show _ < 9; omega) rfl ?_
  refine zs_aload_n (n := 1428) dL_law_1427 rfl rfl ?_
  refine zl_arg (j := 6 * i) (k := 1) (n := 1434) rfl rfl dL_law_1428 dL_law_1429 dL_law_1431 dL_law_1432 dL_law_1433 rfl (by omega) (by omega) rfl ?_
  refine zl_V (nc := nc) (ns := ns) (As := [.int ((zPs Z).2.2 (6 * i + 1))]) (st := []) (ci := 21) (n := 1437) dL_law_1434 ok_X16_setCold ⟨ml_L_198, im_X16_setCold, sl_X16_setCold⟩ rfl (hM.kM h1.2) rfl (Nat.le_of_ble_eq_true rfl) (by simp) rfl rfl h2 hM (fun M hM => ?_)
  refine zs_istore (n := 1439) dL_law_1437 (by show _ < 9; omega) rfl ?_
  refine zX.sub (L' := L7 Z x m o od (6 * i) c (.int b)) ⟨rfl, rfl, rfl, rfl, rfl, rfl, rfl, rfl, trivial⟩ ?_
  exact zl_tI (pc := 1439) dL_law_1439 dL_law_1440 dL_law_1443 dL_law_1445 dL_law_1450 dL_law_1452 dL_law_1455 dL_law_1456 dL_law_1457 dL_law_1458 dL_law_1460 dL_law_1461 dL_law_1462 dL_law_1467 (by decide) h5 hM h3 h4 (fun M hM => kk S2 M h5 hM)
theorem lc_19 (hi : 6 * i + 6 ≤ (zPs Z).2.1) (hN : (zPs Z).2.1 ≤ 4000) (hS : rRel S) (hM : zR Z x m o od S M) (kk : ∀ S' M', rRel S' → zR Z x m o od S' M' → zX Z l 12 (mth_L nm hh) 2314 (LL Z x m o od (6 * i)) [] M' nc ns Q) : zX Z l 12 (mth_L nm hh) 1470 (LL Z x m o od (6 * i)) [] M (nc + 200 + 200) (ns + 1000 + 1000) Q := by
  obtain ⟨c, b, S1, S2, h1, h2, h3, h4, h5⟩ := op_setLaw (Z := Z) (l := l) (x := x) (m := m) (o := o) (od := od) hS (((zPs Z).2.2 (6 * i + 1))) (((zPs Z).2.2 (6 * i + 2)))
  refine zs_aload_n (n := 1471) dL_law_1470 rfl rfl ?_
  refine zl_arg (j := 6 * i) (k := 1) (n := 1477) rfl rfl dL_law_1471 dL_law_1472 dL_law_1474 dL_law_1475 dL_law_1476 rfl (by omega) (by omega) rfl ?_
  refine zl_arg (j := 6 * i) (k := 2) (n := 1483) rfl rfl dL_law_1477 dL_law_1478 dL_law_1480 dL_law_1481 dL_law_1482 rfl (by omega) (by omega) rfl ?_
  refine zs_aload_n (n := 1484) dL_law_1483 rfl rfl ?_
  refine zl_W (nc := nc + 200) (ns := ns + 1000) (As := [.ref x, .int ((zPs Z).2.2 (6 * i + 1)), .int ((zPs Z).2.2 (6 * i + 2)), .ref o]) (st := []) (n := 1487) dL_law_1484 ok_L_setLaw ⟨ml_L_199, st_L_setLaw⟩ rfl (Nat.le_of_ble_eq_true rfl) (by simp) rfl rfl h1 hM (fun M hM => ?_)
  refine zs_istore (n := 1489) dL_law_1487 (by show _ < 9; omega) rfl ?_
  refine zs_aload_n (n := 1490) dL_law_1489 rfl rfl ?_
  refine zl_arg (j := 6 * i) (k := 1) (n := 1496) rfl rfl dL_law_1490 dL_law_1491 dL_law_1493 dL_law_1494 dL_law_1495 rfl (by omega) (by omega) rfl ?_
  refine zl_arg (j := 6 * i) (k := 2) (n := 1502) rfl rfl dL_law_1496 dL_law_1497 dL_law_1499 dL_law_1500 dL_law_1501 rfl (by omega) (by omega) rfl ?_
  refine zl_V (nc := nc) (ns := ns) (As := [.int ((zPs Z).2.2 (6 * i + 1)), .int ((zPs Z).2.2 (6 * i + 2))]) (st := []) (ci := 21) (n := 1505) dL_law_1502 ok_X16_setLaw ⟨ml_L_201, im_X16_setLaw, sl_X16_setLaw⟩ rfl (hM.kM h1.2) rfl (Nat.le_of_ble_eq_true rfl) (by simp) rfl rfl h2 hM (fun M hM => ?_)
  refine zs_istore (n := 1507) dL_law_1505 (by show _ < 9; omega) rfl ?_
  refine zX.sub (L' := L7 Z x m o od (6 * i) c (.int b)) ⟨rfl, rfl, rfl, rfl, rfl, rfl, rfl, rfl, trivial⟩ ?_
  exact zl_tI (pc := 1507) dL_law_1507 dL_law_1508 dL_law_1511 dL_law_1513 dL_law_1518 dL_law_1520 dL_law_1523 dL_law_1524 dL_law_1525 dL_law_1526 dL_law_1528 dL_law_1529 dL_law_1530 dL_law_1535 (by decide) h5 hM h3 h4 (fun M hM => kk S2 M h5 hM)
theorem lc_20 (hi : 6 * i + 6 ≤ (zPs Z).2.1) (hN : (zPs Z).2.1 ≤ 4000) (hS : rRel S) (hM : zR Z x m o od S M) (kk : ∀ S' M', rRel S' → zR Z x m o od S' M' → zX Z l 12 (mth_L nm hh) 2314 (LL Z x m o od (6 * i)) [] M' nc ns Q) : zX Z l 12 (mth_L nm hh) 1538 (LL Z x m o od (6 * i)) [] M (nc + 200 + 200) (ns + 1000 + 1000) Q := by
  obtain ⟨c, b, S1, S2, h1, h2, h3, h4, h5⟩ := op_addVisit (Z := Z) (l := l) (x := x) (m := m) (o := o) (od := od) hS (((zPs Z).2.2 (6 * i + 1))) (((zPs Z).2.2 (6 * i + 2)))
  refine zs_aload_n (n := 1539) dL_law_1538 rfl rfl ?_
  refine zl_arg (j := 6 * i) (k := 1) (n := 1545) rfl rfl dL_law_1539 dL_law_1540 dL_law_1542 dL_law_1543 dL_law_1544 rfl (by omega) (by omega) rfl ?_
  refine zl_arg (j := 6 * i) (k := 2) (n := 1551) rfl rfl dL_law_1545 dL_law_1546 dL_law_1548 dL_law_1549 dL_law_1550 rfl (by omega) (by omega) rfl ?_
  refine zs_aload_n (n := 1552) dL_law_1551 rfl rfl ?_
  refine zl_W (nc := nc + 200) (ns := ns + 1000) (As := [.ref x, .int ((zPs Z).2.2 (6 * i + 1)), .int ((zPs Z).2.2 (6 * i + 2)), .ref o]) (st := []) (n := 1555) dL_law_1552 ok_L_addVisit ⟨ml_L_202, st_L_addVisit⟩ rfl (Nat.le_of_ble_eq_true rfl) (by simp) rfl rfl h1 hM (fun M hM => ?_)
  refine zs_istore (n := 1557) dL_law_1555 (by show _ < 9; omega) rfl ?_
  refine zs_aload_n (n := 1558) dL_law_1557 rfl rfl ?_
  refine zl_arg (j := 6 * i) (k := 1) (n := 1564) rfl rfl dL_law_1558 dL_law_1559 dL_law_1561 dL_law_1562 dL_law_1563 rfl (by omega) (by omega) rfl ?_
  refine zl_arg (j := 6 * i) (k := 2) (n := 1570) rfl rfl dL_law_1564 dL_law_1565 dL_law_1567 dL_law_1568 dL_law_1569 rfl (by omega) (by omega) rfl ?_
  refine zl_V (nc := nc) (ns := ns) (As := [.int ((zPs Z).2.2 (6 * i + 1)), .int ((zPs Z).2.2 (6 * i + 2))]) (st := []) (ci := 21) (n := 1573) dL_law_1570 ok_X16_addVisit ⟨ml_L_204, im_X16_addVisit, sl_X16_addVisit⟩ rfl (hM.kM h1.2) rfl (Nat.le_of_ble_eq_true rfl) (by simp) rfl rfl h2 hM (fun M hM => ?_)
  refine zs_istore (n := 1575) dL_law_1573 (by show _ < 9; omega) rfl ?_
  refine zX.sub (L' := L7 Z x m o od (6 * i) c (.int b)) ⟨rfl, rfl, rfl, rfl, rfl, rfl, rfl, rfl, trivial⟩ ?_
  exact zl_tI (pc := 1575) dL_law_1575 dL_law_1576 dL_law_1579 dL_law_1581 dL_law_1586 dL_law_1588 dL_law_1591 dL_law_1592 dL_law_1593 dL_law_1594 dL_law_1596 dL_law_1597 dL_law_1598 dL_law_1603 (by decide) h5 hM h3 h4 (fun M hM => kk S2 M h5 hM)
theorem lc_21 (hi : 6 * i + 6 ≤ (zPs Z).2.1) (hN : (zPs Z).2.1 ≤ 4000) (hS : rRel S) (hM : zR Z x m o od S M) (kk : ∀ S' M', rRel S' → zR Z x m o od S' M' → zX Z l 12 (mth_L nm hh) 2314 (LL Z x m o od (6 * i)) [] M' nc ns Q) : zX Z l 12 (mth_L nm hh) 1606 (LL Z x m o od (6 * i)) [] M (nc + 200 + 200) (ns + 1000 + 1000) Q := by
  obtain ⟨c, b, S1, S2, h1, h2, h3, h4, h5⟩ := op_join (Z := Z) (l := l) (x := x) (m := m) (o := o) (od := od) hS (((zPs Z).2.2 (6 * i + 1))) (((zPs Z).2.2 (6 * i + 2)))
  refine zs_aload_n (n := 1607) dL_law_1606 rfl rfl ?_
  refine zl_arg (j := 6 * i) (k := 1) (n := 1613) rfl rfl dL_law_1607 dL_law_1608 dL_law_1610 dL_law_1611 dL_law_1612 rfl (by omega) (by omega) rfl ?_
  refine zl_arg (j := 6 * i) (k := 2) (n := 1619) rfl rfl dL_law_1613 dL_law_1614 dL_law_1616 dL_law_1617 dL_law_1618 rfl (by omega) (by omega) rfl ?_
  refine zs_aload_n (n := 1620) dL_law_1619 rfl rfl ?_
  refine zl_W (nc := nc + 200) (ns := ns + 1000) (As := [.ref x, .int ((zPs Z).2.2 (6 * i + 1)), .int ((zPs Z).2.2 (6 * i + 2)), .ref o]) (st := []) (n := 1623) dL_law_1620 ok_L_join ⟨ml_L_205, st_L_join⟩ rfl (Nat.le_of_ble_eq_true rfl) (by simp) rfl rfl h1 hM (fun M hM => ?_)
  refine zs_istore (n := 1625) dL_law_1623 (by show _ < 9; omega) rfl ?_
  refine zs_aload_n (n := 1626) dL_law_1625 rfl rfl ?_
  refine zl_arg (j := 6 * i) (k := 1) (n := 1632) rfl rfl dL_law_1626 dL_law_1627 dL_law_1629 dL_law_1630 dL_law_1631 rfl (by omega) (by omega) rfl ?_
  refine zl_arg (j := 6 * i) (k := 2) (n := 1638) rfl rfl dL_law_1632 dL_law_1633 dL_law_1635 dL_law_1636 dL_law_1637 rfl (by omega) (by omega) rfl ?_
  refine zl_V (nc := nc) (ns := ns) (As := [.int ((zPs Z).2.2 (6 * i + 1)), .int ((zPs Z).2.2 (6 * i + 2))]) (st := []) (ci := 21) (n := 1641) dL_law_1638 ok_X16_join ⟨ml_L_207, im_X16_join, sl_X16_join⟩ rfl (hM.kM h1.2) rfl (Nat.le_of_ble_eq_true rfl) (by simp) rfl rfl h2 hM (fun M hM => ?_)
  refine zs_istore (n := 1643) dL_law_1641 (by show _ < 9; omega) rfl ?_
  refine zX.sub (L' := L7 Z x m o od (6 * i) c (.int b)) ⟨rfl, rfl, rfl, rfl, rfl, rfl, rfl, rfl, trivial⟩ ?_
  exact zl_tI (pc := 1643) dL_law_1643 dL_law_1644 dL_law_1647 dL_law_1649 dL_law_1654 dL_law_1656 dL_law_1659 dL_law_1660 dL_law_1661 dL_law_1662 dL_law_1664 dL_law_1665 dL_law_1666 dL_law_1671 (by decide) h5 hM h3 h4 (fun M hM => kk S2 M h5 hM)
theorem lc_22 (hi : 6 * i + 6 ≤ (zPs Z).2.1) (hN : (zPs Z).2.1 ≤ 4000) (hS : rRel S) (hM : zR Z x m o od S M) (kk : ∀ S' M', rRel S' → zR Z x m o od S' M' → zX Z l 12 (mth_L nm hh) 2314 (LL Z x m o od (6 * i)) [] M' nc ns Q) : zX Z l 12 (mth_L nm hh) 1674 (LL Z x m o od (6 * i)) [] M (nc + 200 + 200) (ns + 1000 + 1000) Q := by
  obtain ⟨c, b, S1, S2, h1, h2, h3, h4, h5⟩ := op_play (Z := Z) (l := l) (x := x) (m := m) (o := o) (od := od) hS 
  refine zs_aload_n (n := 1675) dL_law_1674 rfl rfl ?_
  refine zs_aload_n (n := 1676) dL_law_1675 rfl rfl ?_
  refine zl_W (nc := nc + 200) (ns := ns + 1000) (As := [.ref x, .ref o]) (st := []) (n := 1679) dL_law_1676 ok_L_play ⟨ml_L_208, st_L_play⟩ rfl (Nat.le_of_ble_eq_true rfl) (by simp) rfl rfl h1 hM (fun M hM => ?_)
  refine zs_istore (n := 1681) dL_law_1679 (by show _ < 9; omega) rfl ?_
  refine zs_aload_n (n := 1682) dL_law_1681 rfl rfl ?_
  refine zl_V (nc := nc) (ns := ns) (As := []) (st := []) (ci := 21) (n := 1685) dL_law_1682 ok_X16_play ⟨ml_L_210, im_X16_play, sl_X16_play⟩ rfl (hM.kM h1.2) rfl (Nat.le_of_ble_eq_true rfl) (by simp) rfl rfl h2 hM (fun M hM => ?_)
  refine zs_istore (n := 1687) dL_law_1685 (by show _ < 9; omega) rfl ?_
  refine zX.sub (L' := L7 Z x m o od (6 * i) c (.int b)) ⟨rfl, rfl, rfl, rfl, rfl, rfl, rfl, rfl, trivial⟩ ?_
  exact zl_tI (pc := 1687) dL_law_1687 dL_law_1688 dL_law_1691 dL_law_1693 dL_law_1698 dL_law_1700 dL_law_1703 dL_law_1704 dL_law_1705 dL_law_1706 dL_law_1708 dL_law_1709 dL_law_1710 dL_law_1715 (by decide) h5 hM h3 h4 (fun M hM => kk S2 M h5 hM)
theorem lc_23 (hi : 6 * i + 6 ≤ (zPs Z).2.1) (hN : (zPs Z).2.1 ≤ 4000) (hS : rRel S) (hM : zR Z x m o od S M) (kk : ∀ S' M', rRel S' → zR Z x m o od S' M' → zX Z l 12 (mth_L nm hh) 2314 (LL Z x m o od (6 * i)) [] M' nc ns Q) : zX Z l 12 (mth_L nm hh) 1718 (LL Z x m o od (6 * i)) [] M (nc + 200 + 200) (ns + 1000 + 1000) Q := by
  obtain ⟨c, b, S1, S2, h1, h2, h3, h4, h5⟩ := op_of (Z := Z) (l := l) (x := x) (m := m) (o := o) (od := od) hS (((zPs Z).2.2 (6 * i + 1))) (((zPs Z).2.2 (6 * i + 2))) ((((zPs Z).2.2 (6 * i + 3)).toUInt32 % 65536).toInt32)
  refine zs_aload_n (n := 1719) dL_law_1718 rfl rfl ?_
  refine zl_arg (j := 6 * i) (k := 1) (n := 1725) rfl rfl dL_law_1719 dL_law_1720 dL_law_1722 dL_law_1723 dL_law_1724 rfl (by omega) (by omega) rfl ?_
  refine zl_arg (j := 6 * i) (k := 2) (n := 1731) rfl rfl dL_law_1725 dL_law_1726 dL_law_1728 dL_law_1729 dL_law_1730 rfl (by omega) (by omega) rfl ?_
  refine zl_arg (j := 6 * i) (k := 3) (n := 1737) rfl rfl dL_law_1731 dL_law_1732 dL_law_1734 dL_law_1735 dL_law_1736 rfl (by omega) (by omega) rfl ?_
  refine zs_i2c (n := 1738) dL_law_1737 rfl ?_
  refine zs_aload_n (n := 1739) dL_law_1738 rfl rfl ?_
  refine zl_W (nc := nc + 200) (ns := ns + 1000) (As := [.ref x, .int ((zPs Z).2.2 (6 * i + 1)), .int ((zPs Z).2.2 (6 * i + 2)), .int (((zPs Z).2.2 (6 * i + 3)).toUInt32 % 65536).toInt32, .ref o]) (st := []) (n := 1742) dL_law_1739 ok_L_of ⟨ml_L_211, st_L_of⟩ rfl (Nat.le_of_ble_eq_true rfl) (by simp) rfl rfl h1 hM (fun M hM => ?_)
  refine zs_istore (n := 1744) dL_law_1742 (by show _ < 9; omega) rfl ?_
  refine zs_aload_n (n := 1745) dL_law_1744 rfl rfl ?_
  refine zl_arg (j := 6 * i) (k := 1) (n := 1751) rfl rfl dL_law_1745 dL_law_1746 dL_law_1748 dL_law_1749 dL_law_1750 rfl (by omega) (by omega) rfl ?_
  refine zl_arg (j := 6 * i) (k := 2) (n := 1757) rfl rfl dL_law_1751 dL_law_1752 dL_law_1754 dL_law_1755 dL_law_1756 rfl (by omega) (by omega) rfl ?_
  refine zl_arg (j := 6 * i) (k := 3) (n := 1763) rfl rfl dL_law_1757 dL_law_1758 dL_law_1760 dL_law_1761 dL_law_1762 rfl (by omega) (by omega) rfl ?_
  refine zs_i2c (n := 1764) dL_law_1763 rfl ?_
  refine zl_V (nc := nc) (ns := ns) (As := [.int ((zPs Z).2.2 (6 * i + 1)), .int ((zPs Z).2.2 (6 * i + 2)), .int (((zPs Z).2.2 (6 * i + 3)).toUInt32 % 65536).toInt32]) (st := []) (ci := 21) (n := 1767) dL_law_1764 ok_X16_of ⟨ml_L_214, im_X16_of, sl_X16_of⟩ rfl (hM.kM h1.2) rfl (Nat.le_of_ble_eq_true rfl) (by simp) rfl rfl h2 hM (fun M hM => ?_)
  refine zs_istore (n := 1769) dL_law_1767 (by show _ < 9; omega) rfl ?_
  refine zX.sub (L' := L7 Z x m o od (6 * i) c (.int b)) ⟨rfl, rfl, rfl, rfl, rfl, rfl, rfl, rfl, trivial⟩ ?_
  exact zl_tI (pc := 1769) dL_law_1769 dL_law_1770 dL_law_1773 dL_law_1775 dL_law_1780 dL_law_1782 dL_law_1785 dL_law_1786 dL_law_1787 dL_law_1788 dL_law_1790 dL_law_1791 dL_law_1792 dL_law_1797 (by decide) h5 hM h3 h4 (fun M hM => kk S2 M h5 hM)
theorem lc_24 (hi : 6 * i + 6 ≤ (zPs Z).2.1) (hN : (zPs Z).2.1 ≤ 4000) (hS : rRel S) (hM : zR Z x m o od S M) (kk : ∀ S' M', rRel S' → zR Z x m o od S' M' → zX Z l 12 (mth_L nm hh) 2314 (LL Z x m o od (6 * i)) [] M' nc ns Q) : zX Z l 12 (mth_L nm hh) 1800 (LL Z x m o od (6 * i)) [] M (nc + 200 + 200) (ns + 1000 + 1000) Q := by
  obtain ⟨c, b, S1, S2, h1, h2, h3, h4, h5⟩ := op_isBroken (Z := Z) (l := l) (x := x) (m := m) (o := o) (od := od) hS (((zPs Z).2.2 (6 * i + 1))) (((zPs Z).2.2 (6 * i + 2)))
  refine zs_aload_n (n := 1801) dL_law_1800 rfl rfl ?_
  refine zl_arg (j := 6 * i) (k := 1) (n := 1807) rfl rfl dL_law_1801 dL_law_1802 dL_law_1804 dL_law_1805 dL_law_1806 rfl (by omega) (by omega) rfl ?_
  refine zl_arg (j := 6 * i) (k := 2) (n := 1813) rfl rfl dL_law_1807 dL_law_1808 dL_law_1810 dL_law_1811 dL_law_1812 rfl (by omega) (by omega) rfl ?_
  refine zs_aload_n (n := 1814) dL_law_1813 rfl rfl ?_
  refine zl_W (nc := nc + 200) (ns := ns + 1000) (As := [.ref x, .int ((zPs Z).2.2 (6 * i + 1)), .int ((zPs Z).2.2 (6 * i + 2)), .ref o]) (st := []) (n := 1817) dL_law_1814 ok_L_isBroken ⟨ml_L_215, st_L_isBroken⟩ rfl (Nat.le_of_ble_eq_true rfl) (by simp) rfl rfl h1 hM (fun M hM => ?_)
  refine zs_istore (n := 1819) dL_law_1817 (by show _ < 9; omega) rfl ?_
  refine zs_aload_n (n := 1820) dL_law_1819 rfl rfl ?_
  refine zl_arg (j := 6 * i) (k := 1) (n := 1826) rfl rfl dL_law_1820 dL_law_1821 dL_law_1823 dL_law_1824 dL_law_1825 rfl (by omega) (by omega) rfl ?_
  refine zl_arg (j := 6 * i) (k := 2) (n := 1832) rfl rfl dL_law_1826 dL_law_1827 dL_law_1829 dL_law_1830 dL_law_1831 rfl (by omega) (by omega) rfl ?_
  refine zl_V (nc := nc) (ns := ns) (As := [.int ((zPs Z).2.2 (6 * i + 1)), .int ((zPs Z).2.2 (6 * i + 2))]) (st := []) (ci := 21) (n := 1835) dL_law_1832 ok_X16_isBroken ⟨ml_L_217, im_X16_isBroken, sl_X16_isBroken⟩ rfl (hM.kM h1.2) rfl (Nat.le_of_ble_eq_true rfl) (by simp) rfl rfl h2 hM (fun M hM => ?_)
  refine zs_istore (n := 1837) dL_law_1835 (by show _ < 9; omega) rfl ?_
  refine zX.sub (L' := L7 Z x m o od (6 * i) c (.int b)) ⟨rfl, rfl, rfl, rfl, rfl, rfl, rfl, rfl, trivial⟩ ?_
  exact zl_tZ (pc := 1837) dL_law_1837 dL_law_1838 dL_law_1841 dL_law_1843 dL_law_1848 dL_law_1850 dL_law_1853 dL_law_1854 dL_law_1855 dL_law_1856 dL_law_1858 dL_law_1861 dL_law_1862 dL_law_1865 dL_law_1866 dL_law_1867 dL_law_1872 (by decide) h5 hM h3 h4 (fun M hM => kk S2 M h5 hM)
theorem lc_25 (hi : 6 * i + 6 ≤ (zPs Z).2.1) (hN : (zPs Z).2.1 ≤ 4000) (hS : rRel S) (hM : zR Z x m o od S M) (kk : ∀ S' M', rRel S' → zR Z x m o od S' M' → zX Z l 12 (mth_L nm hh) 2314 (LL Z x m o od (6 * i)) [] M' nc ns Q) : zX Z l 12 (mth_L nm hh) 1875 (LL Z x m o od (6 * i)) [] M (nc + 200 + 200) (ns + 1000 + 1000) Q := by
  obtain ⟨c, b, S1, S2, h1, h2, h3, h4, h5⟩ := op_fineAt (Z := Z) (l := l) (x := x) (m := m) (o := o) (od := od) hS (((zPs Z).2.2 (6 * i + 1)))
  refine zs_aload_n (n := 1876) dL_law_1875 rfl rfl ?_
  refine zl_arg (j := 6 * i) (k := 1) (n := 1882) rfl rfl dL_law_1876 dL_law_1877 dL_law_1879 dL_law_1880 dL_law_1881 rfl (by omega) (by omega) rfl ?_
  refine zs_aload_n (n := 1883) dL_law_1882 rfl rfl ?_
  refine zl_W (nc := nc + 200) (ns := ns + 1000) (As := [.ref x, .int ((zPs Z).2.2 (6 * i + 1)), .ref o]) (st := []) (n := 1886) dL_law_1883 ok_L_fineAt ⟨ml_L_218, st_L_fineAt⟩ rfl (Nat.le_of_ble_eq_true rfl) (by simp) rfl rfl h1 hM (fun M hM => ?_)
  refine zs_istore (n := 1888) dL_law_1886 (by show _ < 9; omega) rfl ?_
  refine zs_aload_n (n := 1889) dL_law_1888 rfl rfl ?_
  refine zl_arg (j := 6 * i) (k := 1) (n := 1895) rfl rfl dL_law_1889 dL_law_1890 dL_law_1892 dL_law_1893 dL_law_1894 rfl (by omega) (by omega) rfl ?_
  refine zl_V (nc := nc) (ns := ns) (As := [.int ((zPs Z).2.2 (6 * i + 1))]) (st := []) (ci := 21) (n := 1898) dL_law_1895 ok_X16_fineAt ⟨ml_L_220, im_X16_fineAt, sl_X16_fineAt⟩ rfl (hM.kM h1.2) rfl (Nat.le_of_ble_eq_true rfl) (by simp) rfl rfl h2 hM (fun M hM => ?_)
  refine zs_istore (n := 1900) dL_law_1898 (by show _ < 9; omega) rfl ?_
  refine zX.sub (L' := L7 Z x m o od (6 * i) c (.int b)) ⟨rfl, rfl, rfl, rfl, rfl, rfl, rfl, rfl, trivial⟩ ?_
  exact zl_tI (pc := 1900) dL_law_1900 dL_law_1901 dL_law_1904 dL_law_1906 dL_law_1911 dL_law_1913 dL_law_1916 dL_law_1917 dL_law_1918 dL_law_1919 dL_law_1921 dL_law_1922 dL_law_1923 dL_law_1928 (by decide) h5 hM h3 h4 (fun M hM => kk S2 M h5 hM)
theorem lc_26 (hi : 6 * i + 6 ≤ (zPs Z).2.1) (hN : (zPs Z).2.1 ≤ 4000) (hS : rRel S) (hM : zR Z x m o od S M) (kk : ∀ S' M', rRel S' → zR Z x m o od S' M' → zX Z l 12 (mth_L nm hh) 2314 (LL Z x m o od (6 * i)) [] M' nc ns Q) : zX Z l 12 (mth_L nm hh) 1931 (LL Z x m o od (6 * i)) [] M (nc + 200 + 200) (ns + 1000 + 1000) Q := by
  obtain ⟨c, b, S1, S2, h1, h2, h3, h4, h5⟩ := op_sumAt (Z := Z) (l := l) (x := x) (m := m) (o := o) (od := od) hS (((zPs Z).2.2 (6 * i + 1)))
  refine zs_aload_n (n := 1932) dL_law_1931 rfl rfl ?_
  refine zl_arg (j := 6 * i) (k := 1) (n := 1938) rfl rfl dL_law_1932 dL_law_1933 dL_law_1935 dL_law_1936 dL_law_1937 rfl (by omega) (by omega) rfl ?_
  refine zs_aload_n (n := 1939) dL_law_1938 rfl rfl ?_
  refine zl_W (nc := nc + 200) (ns := ns + 1000) (As := [.ref x, .int ((zPs Z).2.2 (6 * i + 1)), .ref o]) (st := []) (n := 1942) dL_law_1939 ok_L_sumAt ⟨ml_L_221, st_L_sumAt⟩ rfl (Nat.le_of_ble_eq_true rfl) (by simp) rfl rfl h1 hM (fun M hM => ?_)
  refine zs_istore (n := 1944) dL_law_1942 (by show _ < 9; omega) rfl ?_
  refine zs_aload_n (n := 1945) dL_law_1944 rfl rfl ?_
  refine zl_arg (j := 6 * i) (k := 1) (n := 1951) rfl rfl dL_law_1945 dL_law_1946 dL_law_1948 dL_law_1949 dL_law_1950 rfl (by omega) (by omega) rfl ?_
  refine zl_V (nc := nc) (ns := ns) (As := [.int ((zPs Z).2.2 (6 * i + 1))]) (st := []) (ci := 21) (n := 1954) dL_law_1951 ok_X16_sumAt ⟨ml_L_223, im_X16_sumAt, sl_X16_sumAt⟩ rfl (hM.kM h1.2) rfl (Nat.le_of_ble_eq_true rfl) (by simp) rfl rfl h2 hM (fun M hM => ?_)
  refine zs_istore (n := 1956) dL_law_1954 (by show _ < 9; omega) rfl ?_
  refine zX.sub (L' := L7 Z x m o od (6 * i) c (.int b)) ⟨rfl, rfl, rfl, rfl, rfl, rfl, rfl, rfl, trivial⟩ ?_
  exact zl_tI (pc := 1956) dL_law_1956 dL_law_1957 dL_law_1960 dL_law_1962 dL_law_1967 dL_law_1969 dL_law_1972 dL_law_1973 dL_law_1974 dL_law_1975 dL_law_1977 dL_law_1978 dL_law_1979 dL_law_1984 (by decide) h5 hM h3 h4 (fun M hM => kk S2 M h5 hM)
theorem lc_27 (hi : 6 * i + 6 ≤ (zPs Z).2.1) (hN : (zPs Z).2.1 ≤ 4000) (hS : rRel S) (hM : zR Z x m o od S M) (kk : ∀ S' M', rRel S' → zR Z x m o od S' M' → zX Z l 12 (mth_L nm hh) 2314 (LL Z x m o od (6 * i)) [] M' nc ns Q) : zX Z l 12 (mth_L nm hh) 1987 (LL Z x m o od (6 * i)) [] M (nc + 200 + 200) (ns + 1000 + 1000) Q := by
  obtain ⟨c, b, S1, S2, h1, h2, h3, h4, h5⟩ := op_money (Z := Z) (l := l) (x := x) (m := m) (o := o) (od := od) hS (((zPs Z).2.2 (6 * i + 1)))
  refine zs_aload_n (n := 1988) dL_law_1987 rfl rfl ?_
  refine zl_arg (j := 6 * i) (k := 1) (n := 1994) rfl rfl dL_law_1988 dL_law_1989 dL_law_1991 dL_law_1992 dL_law_1993 rfl (by omega) (by omega) rfl ?_
  refine zs_aload_n (n := 1995) dL_law_1994 rfl rfl ?_
  refine zl_W (nc := nc + 200) (ns := ns + 1000) (As := [.ref x, .int ((zPs Z).2.2 (6 * i + 1)), .ref o]) (st := []) (n := 1998) dL_law_1995 ok_L_money ⟨ml_L_224, st_L_money⟩ rfl (Nat.le_of_ble_eq_true rfl) (by simp) rfl rfl h1 hM (fun M hM => ?_)
  refine zs_istore (n := 2000) dL_law_1998 (by show _ < 9; omega) rfl ?_
  refine zs_aload_n (n := 2001) dL_law_2000 rfl rfl ?_
  refine zl_arg (j := 6 * i) (k := 1) (n := 2007) rfl rfl dL_law_2001 dL_law_2002 dL_law_2004 dL_law_2005 dL_law_2006 rfl (by omega) (by omega) rfl ?_
  refine zl_V (nc := nc) (ns := ns) (As := [.int ((zPs Z).2.2 (6 * i + 1))]) (st := []) (ci := 21) (n := 2010) dL_law_2007 ok_X16_money ⟨ml_L_226, im_X16_money, sl_X16_money⟩ rfl (hM.kM h1.2) rfl (Nat.le_of_ble_eq_true rfl) (by simp) rfl rfl h2 hM (fun M hM => ?_)
  refine zs_istore (n := 2012) dL_law_2010 (by show _ < 9; omega) rfl ?_
  refine zX.sub (L' := L7 Z x m o od (6 * i) c (.int b)) ⟨rfl, rfl, rfl, rfl, rfl, rfl, rfl, rfl, trivial⟩ ?_
  exact zl_tI (pc := 2012) dL_law_2012 dL_law_2013 dL_law_2016 dL_law_2018 dL_law_2023 dL_law_2025 dL_law_2028 dL_law_2029 dL_law_2030 dL_law_2031 dL_law_2033 dL_law_2034 dL_law_2035 dL_law_2040 (by decide) h5 hM h3 h4 (fun M hM => kk S2 M h5 hM)
theorem lc_28 (hi : 6 * i + 6 ≤ (zPs Z).2.1) (hN : (zPs Z).2.1 ≤ 4000) (hS : rRel S) (hM : zR Z x m o od S M) (kk : ∀ S' M', rRel S' → zR Z x m o od S' M' → zX Z l 12 (mth_L nm hh) 2314 (LL Z x m o od (6 * i)) [] M' nc ns Q) : zX Z l 12 (mth_L nm hh) 2043 (LL Z x m o od (6 * i)) [] M (nc + 200 + 200) (ns + 1000 + 1000) Q := by
  obtain ⟨v, S1, S2, hv, h1, h2, h5⟩ := op_fines (Z := Z) (l := l) (x := x) (m := m) (o := o) (od := od) hS
  obtain ⟨y, rfl⟩ := hv
  refine zs_aload_n (n := 2044) dL_law_2043 rfl rfl ?_
  refine zl_V (nc := nc + 200) (ns := ns + 1000) (As := []) (st := []) (ci := 16) (n := 2047) dL_law_2044 ok_X11_fines ⟨ml_L_227, im_X11_fines, sl_X11_fines⟩ rfl (hM.kX hS.h3) rfl (Nat.le_of_ble_eq_true rfl) (by simp) rfl rfl h1.1 hM (fun M hM => ?_)
  refine zs_aload_n (n := 2048) dL_law_2047 rfl rfl ?_
  refine zl_V (nc := nc) (ns := ns) (As := []) (st := [.int y]) (ci := 21) (n := 2051) dL_law_2048 ok_X16_fines ⟨ml_L_230, im_X16_fines, sl_X16_fines⟩ rfl (hM.kM h1.2) rfl (Nat.le_of_ble_eq_true rfl) (by simp) rfl rfl h2 hM (fun M hM => ?_)
  exact zs_icmp_eq (tgt := 2314) (n := 2054) dL_law_2051 (by decide) rfl (fun _ => kk S2 M h5 hM) (fun h => absurd rfl h)
theorem lc_29 (hi : 6 * i + 6 ≤ (zPs Z).2.1) (hN : (zPs Z).2.1 ≤ 4000) (hS : rRel S) (hM : zR Z x m o od S M) (kk : ∀ S' M', rRel S' → zR Z x m o od S' M' → zX Z l 12 (mth_L nm hh) 2314 (LL Z x m o od (6 * i)) [] M' nc ns Q) : zX Z l 12 (mth_L nm hh) 2056 (LL Z x m o od (6 * i)) [] M (nc + 200 + 200) (ns + 1000 + 1000) Q := by
  obtain ⟨c, b, S1, S2, h1, h2, h3, h4, h5⟩ := op_nextDay (Z := Z) (l := l) (x := x) (m := m) (o := o) (od := od) hS 
  refine zs_aload_n (n := 2057) dL_law_2056 rfl rfl ?_
  refine zs_aload_n (n := 2058) dL_law_2057 rfl rfl ?_
  refine zl_W (nc := nc + 200) (ns := ns + 1000) (As := [.ref x, .ref o]) (st := []) (n := 2061) dL_law_2058 ok_L_nextDay ⟨ml_L_231, st_L_nextDay⟩ rfl (Nat.le_of_ble_eq_true rfl) (by simp) rfl rfl h1 hM (fun M hM => ?_)
  refine zs_istore (n := 2063) dL_law_2061 (by show _ < 9; omega) rfl ?_
  refine zs_aload_n (n := 2064) dL_law_2063 rfl rfl ?_
  refine zl_V (nc := nc) (ns := ns) (As := []) (st := []) (ci := 21) (n := 2067) dL_law_2064 ok_X16_nextDay ⟨ml_L_233, im_X16_nextDay, sl_X16_nextDay⟩ rfl (hM.kM h1.2) rfl (Nat.le_of_ble_eq_true rfl) (by simp) rfl rfl h2 hM (fun M hM => ?_)
  refine zs_istore (n := 2069) dL_law_2067 (by show _ < 9; omega) rfl ?_
  refine zX.sub (L' := L7 Z x m o od (6 * i) c (.int b)) ⟨rfl, rfl, rfl, rfl, rfl, rfl, rfl, rfl, trivial⟩ ?_
  exact zl_tI (pc := 2069) dL_law_2069 dL_law_2070 dL_law_2073 dL_law_2075 dL_law_2080 dL_law_2082 dL_law_2085 dL_law_2086 dL_law_2087 dL_law_2088 dL_law_2090 dL_law_2091 dL_law_2092 dL_law_2097 (by decide) h5 hM h3 h4 (fun M hM => kk S2 M h5 hM)
theorem lc_30 (hi : 6 * i + 6 ≤ (zPs Z).2.1) (hN : (zPs Z).2.1 ≤ 4000) (hS : rRel S) (hM : zR Z x m o od S M) (kk : ∀ S' M', rRel S' → zR Z x m o od S' M' → zX Z l 12 (mth_L nm hh) 2314 (LL Z x m o od (6 * i)) [] M' nc ns Q) : zX Z l 12 (mth_L nm hh) 2100 (LL Z x m o od (6 * i)) [] M (nc + 200 + 200) (ns + 1000 + 1000) Q := by
  obtain ⟨c, b, S1, S2, h1, h2, h3, h4, h5⟩ := op_diary (Z := Z) (l := l) (x := x) (m := m) (o := o) (od := od) hS (((zPs Z).2.2 (6 * i + 1)))
  refine zs_aload_n (n := 2101) dL_law_2100 rfl rfl ?_
  refine zl_arg (j := 6 * i) (k := 1) (n := 2107) rfl rfl dL_law_2101 dL_law_2102 dL_law_2104 dL_law_2105 dL_law_2106 rfl (by omega) (by omega) rfl ?_
  refine zs_aload_n (n := 2108) dL_law_2107 rfl rfl ?_
  refine zl_W (nc := nc + 200) (ns := ns + 1000) (As := [.ref x, .int ((zPs Z).2.2 (6 * i + 1)), .ref o]) (st := []) (n := 2111) dL_law_2108 ok_L_diary ⟨ml_L_234, st_L_diary⟩ rfl (Nat.le_of_ble_eq_true rfl) (by simp) rfl rfl h1 hM (fun M hM => ?_)
  refine zs_istore (n := 2113) dL_law_2111 (by show _ < 9; omega) rfl ?_
  refine zs_aload_n (n := 2114) dL_law_2113 rfl rfl ?_
  refine zl_arg (j := 6 * i) (k := 1) (n := 2120) rfl rfl dL_law_2114 dL_law_2115 dL_law_2117 dL_law_2118 dL_law_2119 rfl (by omega) (by omega) rfl ?_
  refine zl_V (nc := nc) (ns := ns) (As := [.int ((zPs Z).2.2 (6 * i + 1))]) (st := []) (ci := 21) (n := 2123) dL_law_2120 ok_X16_diary ⟨ml_L_236, im_X16_diary, sl_X16_diary⟩ rfl (hM.kM h1.2) rfl (Nat.le_of_ble_eq_true rfl) (by simp) rfl rfl h2 hM (fun M hM => ?_)
  refine zs_istore (n := 2125) dL_law_2123 (by show _ < 9; omega) rfl ?_
  refine zX.sub (L' := L7 Z x m o od (6 * i) c (.int b)) ⟨rfl, rfl, rfl, rfl, rfl, rfl, rfl, rfl, trivial⟩ ?_
  exact zl_tI (pc := 2125) dL_law_2125 dL_law_2126 dL_law_2129 dL_law_2131 dL_law_2136 dL_law_2138 dL_law_2141 dL_law_2142 dL_law_2143 dL_law_2144 dL_law_2146 dL_law_2147 dL_law_2148 dL_law_2153 (by decide) h5 hM h3 h4 (fun M hM => kk S2 M h5 hM)
theorem lc_31 (hi : 6 * i + 6 ≤ (zPs Z).2.1) (hN : (zPs Z).2.1 ≤ 4000) (hS : rRel S) (hM : zR Z x m o od S M) (kk : ∀ S' M', rRel S' → zR Z x m o od S' M' → zX Z l 12 (mth_L nm hh) 2314 (LL Z x m o od (6 * i)) [] M' nc ns Q) : zX Z l 12 (mth_L nm hh) 2156 (LL Z x m o od (6 * i)) [] M (nc + 200 + 200) (ns + 1000 + 1000) Q := by
  obtain ⟨v, S1, S2, hv, h1, h2, h5⟩ := op_checksum (Z := Z) (l := l) (x := x) (m := m) (o := o) (od := od) hS
  obtain ⟨y, rfl⟩ := hv
  refine zs_aload_n (n := 2157) dL_law_2156 rfl rfl ?_
  refine zl_V (nc := nc + 200) (ns := ns + 1000) (As := []) (st := []) (ci := 16) (n := 2160) dL_law_2157 ok_X11_checksum ⟨ml_L_237, im_X11_checksum, sl_X11_checksum⟩ rfl (hM.kX hS.h3) rfl (Nat.le_of_ble_eq_true rfl) (by simp) rfl rfl h1.1 hM (fun M hM => ?_)
  refine zs_aload_n (n := 2161) dL_law_2160 rfl rfl ?_
  refine zl_V (nc := nc) (ns := ns) (As := []) (st := [.long y]) (ci := 21) (n := 2164) dL_law_2161 ok_X16_checksum ⟨ml_L_241, im_X16_checksum, sl_X16_checksum⟩ rfl (hM.kM h1.2) rfl (Nat.le_of_ble_eq_true rfl) (by simp) rfl rfl h2 hM (fun M hM => ?_)
  refine zs_lcmp (n := 2165) dL_law_2164 rfl ?_
  exact zs_if_eq (tgt := 2314) (n := 2168) dL_law_2165 (by decide) rfl (fun _ => kk S2 M h5 hM) (fun h => absurd (lgc _) h)
theorem lc_34 (hi : 6 * i + 6 ≤ (zPs Z).2.1) (hN : (zPs Z).2.1 ≤ 4000) (hS : rRel S) (hM : zR Z x m o od S M) (kk : ∀ S' M', rRel S' → zR Z x m o od S' M' → zX Z l 12 (mth_L nm hh) 2314 (LL Z x m o od (6 * i)) [] M' nc ns Q) : zX Z l 12 (mth_L nm hh) 2301 (LL Z x m o od (6 * i)) [] M (nc + 200 + 200) (ns + 1000 + 1000) Q := by
  obtain ⟨v, S1, S2, hv, h1, h2, h5⟩ := op_isSound (Z := Z) (l := l) (x := x) (m := m) (o := o) (od := od) hS
  subst hv
  refine zs_aload_n (n := 2302) dL_law_2301 rfl rfl ?_
  refine zl_V (nc := nc + 200) (ns := ns + 1000) (As := []) (st := []) (ci := 16) (n := 2305) dL_law_2302 ok_X11_isSound ⟨ml_L_249, im_X11_isSound, sl_X11_isSound⟩ rfl (hM.kX hS.h3) rfl (Nat.le_of_ble_eq_true rfl) (by simp) rfl rfl h1.1 hM (fun M hM => ?_)
  refine zs_aload_n (n := 2306) dL_law_2305 rfl rfl ?_
  refine zl_V (nc := nc) (ns := ns) (As := []) (st := [.int 1]) (ci := 21) (n := 2309) dL_law_2306 ok_X16_isSound ⟨ml_L_253, im_X16_isSound, sl_X16_isSound⟩ rfl (hM.kM h1.2) rfl (Nat.le_of_ble_eq_true rfl) (by simp) rfl rfl h2 hM (fun M hM => ?_)
  exact zs_icmp_eq (tgt := 2314) (n := 2312) dL_law_2309 (by decide) rfl (fun _ => kk S2 M h5 hM) (fun h => absurd rfl h)
theorem lc_32 (hi : 6 * i + 6 ≤ (zPs Z).2.1) (hN : (zPs Z).2.1 ≤ 4000) (hS : rRel S) (hM : zR Z x m o od S M) (kk : ∀ S' M', rRel S' → zR Z x m o od S' M' → zX Z l 12 (mth_L nm hh) 2314 (LL Z x m o od (6 * i)) [] M' nc ns Q) : zX Z l 12 (mth_L nm hh) 2170 (LL Z x m o od (6 * i)) [] M (nc + 200 + 200) (ns + 1000 + 1000) Q := by
  obtain ⟨c, v, z, S1, S2, h1, h2, h3, hv, h4, h5⟩ := op_goodShare (Z := Z) (l := l) (x := x) (m := m) (o := o) (od := od) hS
  obtain ⟨w, rfl, rfl⟩ := hv
  refine zs_aload_n (n := 2171) dL_law_2170 rfl rfl ?_
  refine zs_aload (n := 2173) dL_law_2171 rfl rfl ?_
  refine zl_W (nc := nc + 200) (ns := ns + 1000) (As := [.ref x, .ref od]) (st := []) (n := 2176) dL_law_2173 ok_L_goodShare ⟨ml_L_242, st_L_goodShare⟩ rfl (Nat.le_of_ble_eq_true rfl) (by simp) rfl rfl h1 hM (fun M hM => ?_)
  refine zs_istore (n := 2178) dL_law_2176 (by show _ < 9; omega) rfl ?_
  refine zs_aload_n (n := 2179) dL_law_2178 rfl rfl ?_
  refine zl_V (nc := nc) (ns := ns) (As := []) (st := []) (ci := 21) (n := 2182) dL_law_2179 ok_X16_goodShare ⟨ml_L_245, im_X16_goodShare, sl_X16_goodShare⟩ rfl (hM.kM h1.2) rfl (Nat.le_of_ble_eq_true rfl) (by simp) rfl rfl h2 hM (fun M hM => ?_)
  refine zs_fstore (n := 2184) dL_law_2182 (by show _ < 9; omega) rfl ?_
  refine zX.sub (L' := L7 Z x m o od (6 * i) c (.float w)) ⟨rfl, rfl, rfl, rfl, rfl, rfl, rfl, rfl, trivial⟩ ?_
  have hend : zX Z l 12 (mth_L nm hh) 2233 (L7 Z x m o od (6 * i) c (.float w)) [] M nc ns Q := by
    refine zs_goto (tgt := 2314) dL_law_2233 (by decide) ?_
    exact zX.sub (L' := LL Z x m o od (6 * i)) ⟨rfl, rfl, rfl, rfl, rfl, rfl, trivial⟩ (kk S2 M h5 hM)
  refine zs_aload_n (n := 2185) dL_law_2184 rfl rfl ?_
  refine zl_T (n := 2188) dL_law_2185 rfl (by simp) hM h5.h4 h3 ?_
  refine zs_iload (n := 2190) dL_law_2188 rfl rfl ?_
  refine zs_icmp_eq (tgt := 2195) (n := 2193) dL_law_2190 (by decide) rfl (fun _ => ?_) (fun h => absurd rfl h)
  refine zs_iload (n := 2197) dL_law_2195 rfl rfl ?_
  refine zs_if_ne (tgt := 2233) (n := 2200) dL_law_2197 (by decide) rfl (fun _ => hend) (fun h0 => ?_)
  obtain ⟨-, o1, o2, o3⟩ := hM.rowsO h5.h5
  obtain ⟨hn9, hz9⟩ := h4 h0
  refine zs_aload (n := 2202) dL_law_2200 rfl rfl ?_
  refine zs_iconst (v := 0) (n := 2203) dL_law_2202 rfl rfl ?_
  refine zs_dald (n := 2204) dL_law_2203 o1 (by rw [o2]; exact (vp_in_nI (by omega) (by omega) : vp_in (nI 0) 1)) rfl ?_
  rw [show (0 : Int32).toNatClampNeg = 0 from rfl, o3, hz9]
  refine zs_fload (n := 2206) dL_law_2204 rfl rfl ?_
  refine zs_f2d (n := 2207) dL_law_2206 (n64_ok hn9) rfl ?_
  refine zs_dcmp (n := 2208) dL_law_2207 rfl ?_
  exact zs_if_eq (tgt := 2233) (n := 2211) dL_law_2208 (by decide) rfl (fun _ => hend) (fun h => absurd (dcmp_ok hn9 _) h)
theorem lc_33 (hi : 6 * i + 6 ≤ (zPs Z).2.1) (hN : (zPs Z).2.1 ≤ 4000) (hS : rRel S) (hM : zR Z x m o od S M) (kk : ∀ S' M', rRel S' → zR Z x m o od S' M' → zX Z l 12 (mth_L nm hh) 2314 (LL Z x m o od (6 * i)) [] M' nc ns Q) : zX Z l 12 (mth_L nm hh) 2236 (LL Z x m o od (6 * i)) [] M (nc + 200 + 200) (ns + 1000 + 1000) Q := by
  obtain ⟨c, v, z, S1, S2, h1, h2, h3, hv, h4, h5⟩ := op_meanMoney (Z := Z) (l := l) (x := x) (m := m) (o := o) (od := od) hS
  subst hv
  refine zs_aload_n (n := 2237) dL_law_2236 rfl rfl ?_
  refine zs_aload (n := 2239) dL_law_2237 rfl rfl ?_
  refine zl_W (nc := nc + 200) (ns := ns + 1000) (As := [.ref x, .ref od]) (st := []) (n := 2242) dL_law_2239 ok_L_meanMoney ⟨ml_L_246, st_L_meanMoney⟩ rfl (Nat.le_of_ble_eq_true rfl) (by simp) rfl rfl h1 hM (fun M hM => ?_)
  refine zs_istore (n := 2244) dL_law_2242 (by show _ < 9; omega) rfl ?_
  refine zs_aload_n (n := 2245) dL_law_2244 rfl rfl ?_
  refine zl_V (nc := nc) (ns := ns) (As := []) (st := []) (ci := 21) (n := 2248) dL_law_2245 ok_X16_meanMoney ⟨ml_L_248, im_X16_meanMoney, sl_X16_meanMoney⟩ rfl (hM.kM h1.2) rfl (Nat.le_of_ble_eq_true rfl) (by simp) rfl rfl h2 hM (fun M hM => ?_)
  refine zs_dstore (n := 2250) dL_law_2248 (by show _ < 9; omega) rfl ?_
  refine zX.sub (L' := L7 Z x m o od (6 * i) c (.double z)) ⟨rfl, rfl, rfl, rfl, rfl, rfl, rfl, rfl, trivial⟩ ?_
  have hend : zX Z l 12 (mth_L nm hh) 2298 (L7 Z x m o od (6 * i) c (.double z)) [] M nc ns Q := by
    refine zs_goto (tgt := 2314) dL_law_2298 (by decide) ?_
    exact zX.sub (L' := LL Z x m o od (6 * i)) ⟨rfl, rfl, rfl, rfl, rfl, rfl, trivial⟩ (kk S2 M h5 hM)
  refine zs_aload_n (n := 2251) dL_law_2250 rfl rfl ?_
  refine zl_T (n := 2254) dL_law_2251 rfl (by simp) hM h5.h4 h3 ?_
  refine zs_iload (n := 2256) dL_law_2254 rfl rfl ?_
  refine zs_icmp_eq (tgt := 2261) (n := 2259) dL_law_2256 (by decide) rfl (fun _ => ?_) (fun h => absurd rfl h)
  refine zs_iload (n := 2263) dL_law_2261 rfl rfl ?_
  refine zs_if_ne (tgt := 2298) (n := 2266) dL_law_2263 (by decide) rfl (fun _ => hend) (fun h0 => ?_)
  obtain ⟨-, o1, o2, o3⟩ := hM.rowsO h5.h5
  obtain ⟨hn9, hz9⟩ := h4 h0
  refine zs_aload (n := 2268) dL_law_2266 rfl rfl ?_
  refine zs_iconst (v := 0) (n := 2269) dL_law_2268 rfl rfl ?_
  refine zs_dald (n := 2270) dL_law_2269 o1 (by rw [o2]; exact (vp_in_nI (by omega) (by omega) : vp_in (nI 0) 1)) rfl ?_
  rw [show (0 : Int32).toNatClampNeg = 0 from rfl, o3, hz9]
  refine zs_dload (n := 2272) dL_law_2270 rfl rfl ?_
  refine zs_dcmp (n := 2273) dL_law_2272 rfl ?_
  exact zs_if_eq (tgt := 2298) (n := 2276) dL_law_2273 (by decide) rfl (fun _ => hend) (fun h => absurd (dcmp_ok hn9 _) h)
end ZLAW4
