/-! THE LAW: its acts, its switch, its loop -/
section Law2
variable {L : Nat} {xs : Nat → Int32} {i : Int32} {M : Mem} {n : Nat}
theorem K_plank (hR : RM M) (hi : i = nI n) (hn : n + 6 ≤ L) (hL : L ≤ 3072) (h : ∀ K, RM K → LwP L xs 1488 i [] K) : LwP L xs 236 i [] M := by
  refine L_x dL_law_236 ?_
  refine L_arg (n := n) (k := 1) dL_law_237 dL_law_238 dL_law_239 dL_law_240 dL_law_241 (by decide) hi (by omega) hL ?_
  refine L_arg (n := n) (k := 2) dL_law_242 dL_law_243 dL_law_244 dL_law_245 dL_law_246 (by decide) hi (by omega) hL ?_
  refine L_call (j := 56) (n := 3) (ci := 5) (pl := 0) (r := 1) (as := [.int (xs (n + 1)), .int (xs (n + 2))]) (rest := []) dL_law_247 (by decide +kernel) rfl rfl (by decide) (Nat.zero_le _) (by decide +kernel) ?_
  refine (cmd_plank hR).mono (fun v N hN x hx => ?_)
  subst hx
  refine L_m dL_law_250 ?_
  refine L_arg (n := n) (k := 1) dL_law_251 dL_law_252 dL_law_253 dL_law_254 dL_law_255 (by decide) hi (by omega) hL ?_
  refine L_arg (n := n) (k := 2) dL_law_256 dL_law_257 dL_law_258 dL_law_259 dL_law_260 (by decide) hi (by omega) hL ?_
  refine L_call (j := 140) (n := 3) (ci := 6) (pl := 59) (r := 1) (as := [.int (xs (n + 1)), .int (xs (n + 2))]) (rest := [.int x]) dL_law_261 (by decide +kernel) rfl rfl (by decide) (show 1 ≤ 4 by decide) (by decide +kernel) ?_
  refine hN.mono (fun w K hK y hy => ?_)
  obtain ⟨e1, hK⟩ := hK
  subst hy
  cases e1
  exact L_eq dL_law_264 (by decide) (h K hK)
theorem K_keeps (hR : RM M) (hi : i = nI n) (hn : n + 6 ≤ L) (hL : L ≤ 3072) (h : ∀ K, RM K → LwP L xs 1488 i [] K) : LwP L xs 269 i [] M := by
  refine L_x dL_law_269 ?_
  refine L_arg (n := n) (k := 1) dL_law_270 dL_law_271 dL_law_272 dL_law_273 dL_law_274 (by decide) hi (by omega) hL ?_
  refine L_call (j := 57) (n := 2) (ci := 5) (pl := 0) (r := 1) (as := [.int (xs (n + 1))]) (rest := []) dL_law_275 (by decide +kernel) rfl rfl (by decide) (Nat.zero_le _) (by decide +kernel) ?_
  refine (cmd_keeps hR).mono (fun v N hN x hx => ?_)
  subst hx
  refine L_m dL_law_278 ?_
  refine L_arg (n := n) (k := 1) dL_law_279 dL_law_280 dL_law_281 dL_law_282 dL_law_283 (by decide) hi (by omega) hL ?_
  refine L_call (j := 141) (n := 2) (ci := 6) (pl := 59) (r := 1) (as := [.int (xs (n + 1))]) (rest := [.int x]) dL_law_284 (by decide +kernel) rfl rfl (by decide) (show 1 ≤ 4 by decide) (by decide +kernel) ?_
  refine hN.mono (fun w K hK y hy => ?_)
  obtain ⟨e1, hK⟩ := hK
  subst hy
  cases e1
  exact L_eq dL_law_287 (by decide) (h K hK)
theorem K_walker (hR : RM M) (hi : i = nI n) (hn : n + 6 ≤ L) (hL : L ≤ 3072) (h : ∀ K, RM K → LwP L xs 1488 i [] K) : LwP L xs 292 i [] M := by
  refine L_x dL_law_292 ?_
  refine L_arg (n := n) (k := 1) dL_law_293 dL_law_294 dL_law_295 dL_law_296 dL_law_297 (by decide) hi (by omega) hL ?_
  refine L_arg (n := n) (k := 2) dL_law_298 dL_law_299 dL_law_300 dL_law_301 dL_law_302 (by decide) hi (by omega) hL ?_
  refine L_call (j := 58) (n := 3) (ci := 5) (pl := 0) (r := 1) (as := [.int (xs (n + 1)), .int (xs (n + 2))]) (rest := []) dL_law_303 (by decide +kernel) rfl rfl (by decide) (Nat.zero_le _) (by decide +kernel) ?_
  refine (cmd_walker hR).mono (fun v N hN x hx => ?_)
  subst hx
  refine L_m dL_law_306 ?_
  refine L_arg (n := n) (k := 1) dL_law_307 dL_law_308 dL_law_309 dL_law_310 dL_law_311 (by decide) hi (by omega) hL ?_
  refine L_arg (n := n) (k := 2) dL_law_312 dL_law_313 dL_law_314 dL_law_315 dL_law_316 (by decide) hi (by omega) hL ?_
  refine L_call (j := 143) (n := 3) (ci := 6) (pl := 59) (r := 1) (as := [.int (xs (n + 1)), .int (xs (n + 2))]) (rest := [.int x]) dL_law_317 (by decide +kernel) rfl rfl (by decide) (show 1 ≤ 4 by decide) (by decide +kernel) ?_
  refine hN.mono (fun w K hK y hy => ?_)
  obtain ⟨e1, hK⟩ := hK
  subst hy
  cases e1
  exact L_eq dL_law_320 (by decide) (h K hK)
theorem K_of (hR : RM M) (hi : i = nI n) (hn : n + 6 ≤ L) (hL : L ≤ 3072) (h : ∀ K, RM K → LwP L xs 1488 i [] K) : LwP L xs 325 i [] M := by
  refine L_x dL_law_325 ?_
  refine L_arg (n := n) (k := 1) dL_law_326 dL_law_327 dL_law_328 dL_law_329 dL_law_330 (by decide) hi (by omega) hL ?_
  refine L_arg (n := n) (k := 2) dL_law_331 dL_law_332 dL_law_333 dL_law_334 dL_law_335 (by decide) hi (by omega) hL ?_
  refine L_call (j := 59) (n := 3) (ci := 5) (pl := 0) (r := 1) (as := [.int (xs (n + 1)), .int (xs (n + 2))]) (rest := []) dL_law_336 (by decide +kernel) rfl rfl (by decide) (Nat.zero_le _) (by decide +kernel) ?_
  refine (cmd_of hR).mono (fun v N hN x hx => ?_)
  subst hx
  refine L_m dL_law_339 ?_
  refine L_arg (n := n) (k := 1) dL_law_340 dL_law_341 dL_law_342 dL_law_343 dL_law_344 (by decide) hi (by omega) hL ?_
  refine L_arg (n := n) (k := 2) dL_law_345 dL_law_346 dL_law_347 dL_law_348 dL_law_349 (by decide) hi (by omega) hL ?_
  refine L_call (j := 147) (n := 3) (ci := 6) (pl := 59) (r := 1) (as := [.int (xs (n + 1)), .int (xs (n + 2))]) (rest := [.int x]) dL_law_350 (by decide +kernel) rfl rfl (by decide) (show 1 ≤ 4 by decide) (by decide +kernel) ?_
  refine hN.mono (fun w K hK y hy => ?_)
  obtain ⟨e1, hK⟩ := hK
  subst hy
  cases e1
  exact L_eq dL_law_353 (by decide) (h K hK)
theorem K_change (hR : RM M) (hi : i = nI n) (hn : n + 6 ≤ L) (hL : L ≤ 3072) (h : ∀ K, RM K → LwP L xs 1488 i [] K) : LwP L xs 358 i [] M := by
  refine L_x dL_law_358 ?_
  refine L_arg (n := n) (k := 1) dL_law_359 dL_law_360 dL_law_361 dL_law_362 dL_law_363 (by decide) hi (by omega) hL ?_
  refine L_arg (n := n) (k := 2) dL_law_364 dL_law_365 dL_law_366 dL_law_367 dL_law_368 (by decide) hi (by omega) hL ?_
  refine L_arg (n := n) (k := 3) dL_law_369 dL_law_370 dL_law_371 dL_law_372 dL_law_373 (by decide) hi (by omega) hL ?_
  refine L_call (j := 60) (n := 4) (ci := 5) (pl := 0) (r := 1) (as := [.int (xs (n + 1)), .int (xs (n + 2)), .int (xs (n + 3))]) (rest := []) dL_law_374 (by decide +kernel) rfl rfl (by decide) (Nat.zero_le _) (by decide +kernel) ?_
  refine (cmd_change hR).mono (fun v N hN x hx => ?_)
  subst hx
  refine L_m dL_law_377 ?_
  refine L_arg (n := n) (k := 1) dL_law_378 dL_law_379 dL_law_380 dL_law_381 dL_law_382 (by decide) hi (by omega) hL ?_
  refine L_arg (n := n) (k := 2) dL_law_383 dL_law_384 dL_law_385 dL_law_386 dL_law_387 (by decide) hi (by omega) hL ?_
  refine L_arg (n := n) (k := 3) dL_law_388 dL_law_389 dL_law_390 dL_law_391 dL_law_392 (by decide) hi (by omega) hL ?_
  refine L_call (j := 149) (n := 4) (ci := 6) (pl := 59) (r := 1) (as := [.int (xs (n + 1)), .int (xs (n + 2)), .int (xs (n + 3))]) (rest := [.int x]) dL_law_393 (by decide +kernel) rfl rfl (by decide) (show 1 ≤ 4 by decide) (by decide +kernel) ?_
  refine hN.mono (fun w K hK y hy => ?_)
  obtain ⟨e1, hK⟩ := hK
  subst hy
  cases e1
  exact L_eq dL_law_396 (by decide) (h K hK)
theorem K_night (hR : RM M) (hi : i = nI n) (hn : n + 6 ≤ L) (hL : L ≤ 3072) (h : ∀ K, RM K → LwP L xs 1488 i [] K) : LwP L xs 401 i [] M := by
  refine L_x dL_law_401 ?_
  refine L_arg (n := n) (k := 1) dL_law_402 dL_law_403 dL_law_404 dL_law_405 dL_law_406 (by decide) hi (by omega) hL ?_
  refine L_call (j := 61) (n := 2) (ci := 5) (pl := 0) (r := 1) (as := [.int (xs (n + 1))]) (rest := []) dL_law_407 (by decide +kernel) rfl rfl (by decide) (Nat.zero_le _) (by decide +kernel) ?_
  refine (cmd_night hR).mono (fun v N hN x hx => ?_)
  subst hx
  refine L_m dL_law_410 ?_
  refine L_arg (n := n) (k := 1) dL_law_411 dL_law_412 dL_law_413 dL_law_414 dL_law_415 (by decide) hi (by omega) hL ?_
  refine L_call (j := 150) (n := 2) (ci := 6) (pl := 59) (r := 1) (as := [.int (xs (n + 1))]) (rest := [.int x]) dL_law_416 (by decide +kernel) rfl rfl (by decide) (show 1 ≤ 4 by decide) (by decide +kernel) ?_
  refine hN.mono (fun w K hK y hy => ?_)
  obtain ⟨e1, hK⟩ := hK
  subst hy
  cases e1
  exact L_eq dL_law_419 (by decide) (h K hK)
theorem K_cross (hR : RM M) (hi : i = nI n) (hn : n + 6 ≤ L) (hL : L ≤ 3072) (h : ∀ K, RM K → LwP L xs 1488 i [] K) : LwP L xs 424 i [] M := by
  refine L_x dL_law_424 ?_
  refine L_arg (n := n) (k := 1) dL_law_425 dL_law_426 dL_law_427 dL_law_428 dL_law_429 (by decide) hi (by omega) hL ?_
  refine L_call (j := 62) (n := 2) (ci := 5) (pl := 0) (r := 1) (as := [.int (xs (n + 1))]) (rest := []) dL_law_430 (by decide +kernel) rfl rfl (by decide) (Nat.zero_le _) (by decide +kernel) ?_
  refine (cmd_cross hR).mono (fun v N hN x hx => ?_)
  subst hx
  refine L_m dL_law_433 ?_
  refine L_arg (n := n) (k := 1) dL_law_434 dL_law_435 dL_law_436 dL_law_437 dL_law_438 (by decide) hi (by omega) hL ?_
  refine L_call (j := 154) (n := 2) (ci := 6) (pl := 59) (r := 1) (as := [.int (xs (n + 1))]) (rest := [.int x]) dL_law_439 (by decide +kernel) rfl rfl (by decide) (show 1 ≤ 4 by decide) (by decide +kernel) ?_
  refine hN.mono (fun w K hK y hy => ?_)
  obtain ⟨e1, hK⟩ := hK
  subst hy
  cases e1
  exact L_eq dL_law_442 (by decide) (h K hK)
theorem K_crowd (hR : RM M) (hi : i = nI n) (hn : n + 6 ≤ L) (hL : L ≤ 3072) (h : ∀ K, RM K → LwP L xs 1488 i [] K) : LwP L xs 447 i [] M := by
  refine L_x dL_law_447 ?_
  refine L_arg (n := n) (k := 1) dL_law_448 dL_law_449 dL_law_450 dL_law_451 dL_law_452 (by decide) hi (by omega) hL ?_
  refine L_call (j := 63) (n := 2) (ci := 5) (pl := 0) (r := 1) (as := [.int (xs (n + 1))]) (rest := []) dL_law_453 (by decide +kernel) rfl rfl (by decide) (Nat.zero_le _) (by decide +kernel) ?_
  refine (cmd_crowd hR).mono (fun v N hN x hx => ?_)
  subst hx
  refine L_m dL_law_456 ?_
  refine L_arg (n := n) (k := 1) dL_law_457 dL_law_458 dL_law_459 dL_law_460 dL_law_461 (by decide) hi (by omega) hL ?_
  refine L_call (j := 156) (n := 2) (ci := 6) (pl := 59) (r := 1) (as := [.int (xs (n + 1))]) (rest := [.int x]) dL_law_462 (by decide +kernel) rfl rfl (by decide) (show 1 ≤ 4 by decide) (by decide +kernel) ?_
  refine hN.mono (fun w K hK y hy => ?_)
  obtain ⟨e1, hK⟩ := hK
  subst hy
  cases e1
  exact L_eq dL_law_465 (by decide) (h K hK)
theorem K_now (hR : RM M) (hi : i = nI n) (hn : n + 6 ≤ L) (hL : L ≤ 3072) (h : ∀ K, RM K → LwP L xs 1488 i [] K) : LwP L xs 470 i [] M := by
  refine L_x dL_law_470 ?_
  refine L_arg (n := n) (k := 1) dL_law_471 dL_law_472 dL_law_473 dL_law_474 dL_law_475 (by decide) hi (by omega) hL ?_
  refine L_call (j := 64) (n := 2) (ci := 5) (pl := 0) (r := 1) (as := [.int (xs (n + 1))]) (rest := []) dL_law_476 (by decide +kernel) rfl rfl (by decide) (Nat.zero_le _) (by decide +kernel) ?_
  refine (cmd_now hR).mono (fun v N hN x hx => ?_)
  subst hx
  refine L_m dL_law_479 ?_
  refine L_arg (n := n) (k := 1) dL_law_480 dL_law_481 dL_law_482 dL_law_483 dL_law_484 (by decide) hi (by omega) hL ?_
  refine L_call (j := 161) (n := 2) (ci := 6) (pl := 59) (r := 1) (as := [.int (xs (n + 1))]) (rest := [.int x]) dL_law_485 (by decide +kernel) rfl rfl (by decide) (show 1 ≤ 4 by decide) (by decide +kernel) ?_
  refine hN.mono (fun w K hK y hy => ?_)
  obtain ⟨e1, hK⟩ := hK
  subst hy
  cases e1
  exact L_eq dL_law_488 (by decide) (h K hK)
theorem K_would (hR : RM M) (hi : i = nI n) (hn : n + 6 ≤ L) (hL : L ≤ 3072) (h : ∀ K, RM K → LwP L xs 1488 i [] K) : LwP L xs 493 i [] M := by
  refine L_x dL_law_493 ?_
  refine L_arg (n := n) (k := 1) dL_law_494 dL_law_495 dL_law_496 dL_law_497 dL_law_498 (by decide) hi (by omega) hL ?_
  refine L_call (j := 65) (n := 2) (ci := 5) (pl := 0) (r := 1) (as := [.int (xs (n + 1))]) (rest := []) dL_law_499 (by decide +kernel) rfl rfl (by decide) (Nat.zero_le _) (by decide +kernel) ?_
  refine (cmd_would hR).mono (fun v N hN x hx => ?_)
  subst hx
  refine L_m dL_law_502 ?_
  refine L_arg (n := n) (k := 1) dL_law_503 dL_law_504 dL_law_505 dL_law_506 dL_law_507 (by decide) hi (by omega) hL ?_
  refine L_call (j := 162) (n := 2) (ci := 6) (pl := 59) (r := 1) (as := [.int (xs (n + 1))]) (rest := [.int x]) dL_law_508 (by decide +kernel) rfl rfl (by decide) (show 1 ≤ 4 by decide) (by decide +kernel) ?_
  refine hN.mono (fun w K hK y hy => ?_)
  obtain ⟨e1, hK⟩ := hK
  subst hy
  cases e1
  exact L_eq dL_law_511 (by decide) (h K hK)
theorem K_becomes (hR : RM M) (hi : i = nI n) (hn : n + 6 ≤ L) (hL : L ≤ 3072) (h : ∀ K, RM K → LwP L xs 1488 i [] K) : LwP L xs 516 i [] M := by
  refine L_x dL_law_516 ?_
  refine L_arg (n := n) (k := 1) dL_law_517 dL_law_518 dL_law_519 dL_law_520 dL_law_521 (by decide) hi (by omega) hL ?_
  refine L_call (j := 66) (n := 2) (ci := 5) (pl := 0) (r := 1) (as := [.int (xs (n + 1))]) (rest := []) dL_law_522 (by decide +kernel) rfl rfl (by decide) (Nat.zero_le _) (by decide +kernel) ?_
  refine (cmd_becomes hR).mono (fun v N hN x hx => ?_)
  subst hx
  refine L_m dL_law_525 ?_
  refine L_arg (n := n) (k := 1) dL_law_526 dL_law_527 dL_law_528 dL_law_529 dL_law_530 (by decide) hi (by omega) hL ?_
  refine L_call (j := 164) (n := 2) (ci := 6) (pl := 59) (r := 1) (as := [.int (xs (n + 1))]) (rest := [.int x]) dL_law_531 (by decide +kernel) rfl rfl (by decide) (show 1 ≤ 4 by decide) (by decide +kernel) ?_
  refine hN.mono (fun w K hK y hy => ?_)
  obtain ⟨e1, hK⟩ := hK
  subst hy
  cases e1
  exact L_eq dL_law_534 (by decide) (h K hK)
theorem K_leaves (hR : RM M) (hi : i = nI n) (hn : n + 6 ≤ L) (hL : L ≤ 3072) (h : ∀ K, RM K → LwP L xs 1488 i [] K) : LwP L xs 539 i [] M := by
  refine L_x dL_law_539 ?_
  refine L_arg (n := n) (k := 1) dL_law_540 dL_law_541 dL_law_542 dL_law_543 dL_law_544 (by decide) hi (by omega) hL ?_
  refine L_arg (n := n) (k := 2) dL_law_545 dL_law_546 dL_law_547 dL_law_548 dL_law_549 (by decide) hi (by omega) hL ?_
  refine L_call (j := 67) (n := 3) (ci := 5) (pl := 0) (r := 1) (as := [.int (xs (n + 1)), .int (xs (n + 2))]) (rest := []) dL_law_550 (by decide +kernel) rfl rfl (by decide) (Nat.zero_le _) (by decide +kernel) ?_
  refine (cmd_leaves hR).mono (fun v N hN x hx => ?_)
  subst hx
  refine L_m dL_law_553 ?_
  refine L_arg (n := n) (k := 1) dL_law_554 dL_law_555 dL_law_556 dL_law_557 dL_law_558 (by decide) hi (by omega) hL ?_
  refine L_arg (n := n) (k := 2) dL_law_559 dL_law_560 dL_law_561 dL_law_562 dL_law_563 (by decide) hi (by omega) hL ?_
  refine L_call (j := 165) (n := 3) (ci := 6) (pl := 59) (r := 1) (as := [.int (xs (n + 1)), .int (xs (n + 2))]) (rest := [.int x]) dL_law_564 (by decide +kernel) rfl rfl (by decide) (show 1 ≤ 4 by decide) (by decide +kernel) ?_
  refine hN.mono (fun w K hK y hy => ?_)
  obtain ⟨e1, hK⟩ := hK
  subst hy
  cases e1
  exact L_eq dL_law_567 (by decide) (h K hK)
theorem K_after (hR : RM M) (hi : i = nI n) (hn : n + 6 ≤ L) (hL : L ≤ 3072) (h : ∀ K, RM K → LwP L xs 1488 i [] K) : LwP L xs 572 i [] M := by
  refine L_x dL_law_572 ?_
  refine L_arg (n := n) (k := 1) dL_law_573 dL_law_574 dL_law_575 dL_law_576 dL_law_577 (by decide) hi (by omega) hL ?_
  refine L_arg (n := n) (k := 2) dL_law_578 dL_law_579 dL_law_580 dL_law_581 dL_law_582 (by decide) hi (by omega) hL ?_
  refine L_call (j := 68) (n := 3) (ci := 5) (pl := 0) (r := 1) (as := [.int (xs (n + 1)), .int (xs (n + 2))]) (rest := []) dL_law_583 (by decide +kernel) rfl rfl (by decide) (Nat.zero_le _) (by decide +kernel) ?_
  refine (cmd_after hR).mono (fun v N hN x hx => ?_)
  subst hx
  refine L_m dL_law_586 ?_
  refine L_arg (n := n) (k := 1) dL_law_587 dL_law_588 dL_law_589 dL_law_590 dL_law_591 (by decide) hi (by omega) hL ?_
  refine L_arg (n := n) (k := 2) dL_law_592 dL_law_593 dL_law_594 dL_law_595 dL_law_596 (by decide) hi (by omega) hL ?_
  refine L_call (j := 167) (n := 3) (ci := 6) (pl := 59) (r := 1) (as := [.int (xs (n + 1)), .int (xs (n + 2))]) (rest := [.int x]) dL_law_597 (by decide +kernel) rfl rfl (by decide) (show 1 ≤ 4 by decide) (by decide +kernel) ?_
  refine hN.mono (fun w K hK y hy => ?_)
  obtain ⟨e1, hK⟩ := hK
  subst hy
  cases e1
  exact L_eq dL_law_600 (by decide) (h K hK)
theorem K_often (hR : RM M) (hi : i = nI n) (hn : n + 6 ≤ L) (hL : L ≤ 3072) (h : ∀ K, RM K → LwP L xs 1488 i [] K) : LwP L xs 605 i [] M := by
  refine L_x dL_law_605 ?_
  refine L_arg (n := n) (k := 1) dL_law_606 dL_law_607 dL_law_608 dL_law_609 dL_law_610 (by decide) hi (by omega) hL ?_
  refine L_call (j := 69) (n := 2) (ci := 5) (pl := 0) (r := 1) (as := [.int (xs (n + 1))]) (rest := []) dL_law_611 (by decide +kernel) rfl rfl (by decide) (Nat.zero_le _) (by decide +kernel) ?_
  refine (cmd_often hR).mono (fun v N hN x hx => ?_)
  subst hx
  refine L_m dL_law_614 ?_
  refine L_arg (n := n) (k := 1) dL_law_615 dL_law_616 dL_law_617 dL_law_618 dL_law_619 (by decide) hi (by omega) hL ?_
  refine L_call (j := 168) (n := 2) (ci := 6) (pl := 59) (r := 1) (as := [.int (xs (n + 1))]) (rest := [.int x]) dL_law_620 (by decide +kernel) rfl rfl (by decide) (show 1 ≤ 4 by decide) (by decide +kernel) ?_
  refine hN.mono (fun w K hK y hy => ?_)
  obtain ⟨e1, hK⟩ := hK
  subst hy
  cases e1
  exact L_eq dL_law_623 (by decide) (h K hK)
theorem K_balanceFor (hR : RM M) (hi : i = nI n) (hn : n + 6 ≤ L) (hL : L ≤ 3072) (h : ∀ K, RM K → LwP L xs 1488 i [] K) : LwP L xs 628 i [] M := by
  refine L_x dL_law_628 ?_
  refine L_arg (n := n) (k := 1) dL_law_629 dL_law_630 dL_law_631 dL_law_632 dL_law_633 (by decide) hi (by omega) hL ?_
  refine L_call (j := 70) (n := 2) (ci := 5) (pl := 0) (r := 1) (as := [.int (xs (n + 1))]) (rest := []) dL_law_634 (by decide +kernel) rfl rfl (by decide) (Nat.zero_le _) (by decide +kernel) ?_
  refine (cmd_balanceFor hR).mono (fun v N hN x hx => ?_)
  subst hx
  refine L_m dL_law_637 ?_
  refine L_arg (n := n) (k := 1) dL_law_638 dL_law_639 dL_law_640 dL_law_641 dL_law_642 (by decide) hi (by omega) hL ?_
  refine L_call (j := 171) (n := 2) (ci := 6) (pl := 59) (r := 1) (as := [.int (xs (n + 1))]) (rest := [.int x]) dL_law_643 (by decide +kernel) rfl rfl (by decide) (show 1 ≤ 4 by decide) (by decide +kernel) ?_
  refine hN.mono (fun w K hK y hy => ?_)
  obtain ⟨e1, hK⟩ := hK
  subst hy
  cases e1
  exact L_eq dL_law_646 (by decide) (h K hK)
theorem K_gaits (hR : RM M) (hi : i = nI n) (hn : n + 6 ≤ L) (hL : L ≤ 3072) (h : ∀ K, RM K → LwP L xs 1488 i [] K) : LwP L xs 651 i [] M := by
  refine L_x dL_law_651 ?_
  refine L_arg (n := n) (k := 1) dL_law_652 dL_law_653 dL_law_654 dL_law_655 dL_law_656 (by decide) hi (by omega) hL ?_
  refine L_call (j := 71) (n := 2) (ci := 5) (pl := 0) (r := 1) (as := [.int (xs (n + 1))]) (rest := []) dL_law_657 (by decide +kernel) rfl rfl (by decide) (Nat.zero_le _) (by decide +kernel) ?_
  refine (cmd_gaits hR).mono (fun v N hN x hx => ?_)
  subst hx
  refine L_m dL_law_660 ?_
  refine L_arg (n := n) (k := 1) dL_law_661 dL_law_662 dL_law_663 dL_law_664 dL_law_665 (by decide) hi (by omega) hL ?_
  refine L_call (j := 172) (n := 2) (ci := 6) (pl := 59) (r := 1) (as := [.int (xs (n + 1))]) (rest := [.int x]) dL_law_666 (by decide +kernel) rfl rfl (by decide) (show 1 ≤ 4 by decide) (by decide +kernel) ?_
  refine hN.mono (fun w K hK y hy => ?_)
  obtain ⟨e1, hK⟩ := hK
  subst hy
  cases e1
  exact L_eq dL_law_669 (by decide) (h K hK)
theorem K_gaitFor (hR : RM M) (hi : i = nI n) (hn : n + 6 ≤ L) (hL : L ≤ 3072) (h : ∀ K, RM K → LwP L xs 1488 i [] K) : LwP L xs 674 i [] M := by
  refine L_x dL_law_674 ?_
  refine L_arg (n := n) (k := 1) dL_law_675 dL_law_676 dL_law_677 dL_law_678 dL_law_679 (by decide) hi (by omega) hL ?_
  refine L_call (j := 72) (n := 2) (ci := 5) (pl := 0) (r := 1) (as := [.int (xs (n + 1))]) (rest := []) dL_law_680 (by decide +kernel) rfl rfl (by decide) (Nat.zero_le _) (by decide +kernel) ?_
  refine (cmd_gaitFor hR).mono (fun v N hN x hx => ?_)
  subst hx
  refine L_m dL_law_683 ?_
  refine L_arg (n := n) (k := 1) dL_law_684 dL_law_685 dL_law_686 dL_law_687 dL_law_688 (by decide) hi (by omega) hL ?_
  refine L_call (j := 173) (n := 2) (ci := 6) (pl := 59) (r := 1) (as := [.int (xs (n + 1))]) (rest := [.int x]) dL_law_689 (by decide +kernel) rfl rfl (by decide) (show 1 ≤ 4 by decide) (by decide +kernel) ?_
  refine hN.mono (fun w K hK y hy => ?_)
  obtain ⟨e1, hK⟩ := hK
  subst hy
  cases e1
  exact L_eq dL_law_692 (by decide) (h K hK)
theorem K_kindsFor (hR : RM M) (hi : i = nI n) (hn : n + 6 ≤ L) (hL : L ≤ 3072) (h : ∀ K, RM K → LwP L xs 1488 i [] K) : LwP L xs 697 i [] M := by
  refine L_x dL_law_697 ?_
  refine L_arg (n := n) (k := 1) dL_law_698 dL_law_699 dL_law_700 dL_law_701 dL_law_702 (by decide) hi (by omega) hL ?_
  refine L_call (j := 73) (n := 2) (ci := 5) (pl := 0) (r := 1) (as := [.int (xs (n + 1))]) (rest := []) dL_law_703 (by decide +kernel) rfl rfl (by decide) (Nat.zero_le _) (by decide +kernel) ?_
  refine (cmd_kindsFor hR).mono (fun v N hN x hx => ?_)
  subst hx
  refine L_m dL_law_706 ?_
  refine L_arg (n := n) (k := 1) dL_law_707 dL_law_708 dL_law_709 dL_law_710 dL_law_711 (by decide) hi (by omega) hL ?_
  refine L_call (j := 174) (n := 2) (ci := 6) (pl := 59) (r := 1) (as := [.int (xs (n + 1))]) (rest := [.int x]) dL_law_712 (by decide +kernel) rfl rfl (by decide) (show 1 ≤ 4 by decide) (by decide +kernel) ?_
  refine hN.mono (fun w K hK y hy => ?_)
  obtain ⟨e1, hK⟩ := hK
  subst hy
  cases e1
  exact L_eq dL_law_715 (by decide) (h K hK)
theorem K_order (hR : RM M) (hi : i = nI n) (hn : n + 6 ≤ L) (hL : L ≤ 3072) (h : ∀ K, RM K → LwP L xs 1488 i [] K) : LwP L xs 720 i [] M := by
  refine L_x dL_law_720 ?_
  refine L_arg (n := n) (k := 1) dL_law_721 dL_law_722 dL_law_723 dL_law_724 dL_law_725 (by decide) hi (by omega) hL ?_
  refine L_arg (n := n) (k := 2) dL_law_726 dL_law_727 dL_law_728 dL_law_729 dL_law_730 (by decide) hi (by omega) hL ?_
  refine L_call (j := 74) (n := 3) (ci := 5) (pl := 0) (r := 1) (as := [.int (xs (n + 1)), .int (xs (n + 2))]) (rest := []) dL_law_731 (by decide +kernel) rfl rfl (by decide) (Nat.zero_le _) (by decide +kernel) ?_
  refine (cmd_order hR).mono (fun v N hN x hx => ?_)
  subst hx
  refine L_m dL_law_734 ?_
  refine L_arg (n := n) (k := 1) dL_law_735 dL_law_736 dL_law_737 dL_law_738 dL_law_739 (by decide) hi (by omega) hL ?_
  refine L_arg (n := n) (k := 2) dL_law_740 dL_law_741 dL_law_742 dL_law_743 dL_law_744 (by decide) hi (by omega) hL ?_
  refine L_call (j := 179) (n := 3) (ci := 6) (pl := 59) (r := 1) (as := [.int (xs (n + 1)), .int (xs (n + 2))]) (rest := [.int x]) dL_law_745 (by decide +kernel) rfl rfl (by decide) (show 1 ≤ 4 by decide) (by decide +kernel) ?_
  refine hN.mono (fun w K hK y hy => ?_)
  obtain ⟨e1, hK⟩ := hK
  subst hy
  cases e1
  exact L_eq dL_law_748 (by decide) (h K hK)
theorem K_orders (hR : RM M) (hi : i = nI n) (hn : n + 6 ≤ L) (hL : L ≤ 3072) (h : ∀ K, RM K → LwP L xs 1488 i [] K) : LwP L xs 753 i [] M := by
  refine L_x dL_law_753 ?_
  refine L_arg (n := n) (k := 1) dL_law_754 dL_law_755 dL_law_756 dL_law_757 dL_law_758 (by decide) hi (by omega) hL ?_
  refine L_call (j := 75) (n := 2) (ci := 5) (pl := 0) (r := 1) (as := [.int (xs (n + 1))]) (rest := []) dL_law_759 (by decide +kernel) rfl rfl (by decide) (Nat.zero_le _) (by decide +kernel) ?_
  refine (cmd_orders hR).mono (fun v N hN x hx => ?_)
  subst hx
  refine L_m dL_law_762 ?_
  refine L_arg (n := n) (k := 1) dL_law_763 dL_law_764 dL_law_765 dL_law_766 dL_law_767 (by decide) hi (by omega) hL ?_
  refine L_call (j := 180) (n := 2) (ci := 6) (pl := 59) (r := 1) (as := [.int (xs (n + 1))]) (rest := [.int x]) dL_law_768 (by decide +kernel) rfl rfl (by decide) (show 1 ≤ 4 by decide) (by decide +kernel) ?_
  refine hN.mono (fun w K hK y hy => ?_)
  obtain ⟨e1, hK⟩ := hK
  subst hy
  cases e1
  exact L_eq dL_law_771 (by decide) (h K hK)
theorem K_fewest (hR : RM M) (hi : i = nI n) (hn : n + 6 ≤ L) (hL : L ≤ 3072) (h : ∀ K, RM K → LwP L xs 1488 i [] K) : LwP L xs 776 i [] M := by
  refine L_x dL_law_776 ?_
  refine L_arg (n := n) (k := 1) dL_law_777 dL_law_778 dL_law_779 dL_law_780 dL_law_781 (by decide) hi (by omega) hL ?_
  refine L_call (j := 76) (n := 2) (ci := 5) (pl := 0) (r := 1) (as := [.int (xs (n + 1))]) (rest := []) dL_law_782 (by decide +kernel) rfl rfl (by decide) (Nat.zero_le _) (by decide +kernel) ?_
  refine (cmd_fewest hR).mono (fun v N hN x hx => ?_)
  subst hx
  refine L_m dL_law_785 ?_
  refine L_arg (n := n) (k := 1) dL_law_786 dL_law_787 dL_law_788 dL_law_789 dL_law_790 (by decide) hi (by omega) hL ?_
  refine L_call (j := 181) (n := 2) (ci := 6) (pl := 59) (r := 1) (as := [.int (xs (n + 1))]) (rest := [.int x]) dL_law_791 (by decide +kernel) rfl rfl (by decide) (show 1 ≤ 4 by decide) (by decide +kernel) ?_
  refine hN.mono (fun w K hK y hy => ?_)
  obtain ⟨e1, hK⟩ := hK
  subst hy
  cases e1
  exact L_eq dL_law_794 (by decide) (h K hK)
theorem K_most (hR : RM M) (hi : i = nI n) (hn : n + 6 ≤ L) (hL : L ≤ 3072) (h : ∀ K, RM K → LwP L xs 1488 i [] K) : LwP L xs 799 i [] M := by
  refine L_x dL_law_799 ?_
  refine L_call (j := 77) (n := 1) (ci := 5) (pl := 0) (r := 1) (as := []) (rest := []) dL_law_800 (by decide +kernel) rfl rfl (by decide) (Nat.zero_le _) (by decide +kernel) ?_
  refine (cmd_most hR).mono (fun v N hN x hx => ?_)
  subst hx
  refine L_m dL_law_803 ?_
  refine L_call (j := 182) (n := 1) (ci := 6) (pl := 59) (r := 1) (as := []) (rest := [.int x]) dL_law_804 (by decide +kernel) rfl rfl (by decide) (show 1 ≤ 4 by decide) (by decide +kernel) ?_
  refine hN.mono (fun w K hK y hy => ?_)
  obtain ⟨e1, hK⟩ := hK
  subst hy
  cases e1
  exact L_eq dL_law_807 (by decide) (h K hK)
theorem K_lay (hR : RM M) (hi : i = nI n) (hn : n + 6 ≤ L) (hL : L ≤ 3072) (h : ∀ K, RM K → LwP L xs 1488 i [] K) : LwP L xs 812 i [] M := by
  refine L_x dL_law_812 ?_
  refine L_arg (n := n) (k := 1) dL_law_813 dL_law_814 dL_law_815 dL_law_816 dL_law_817 (by decide) hi (by omega) hL ?_
  refine L_call (j := 78) (n := 2) (ci := 5) (pl := 0) (r := 1) (as := [.int (xs (n + 1))]) (rest := []) dL_law_818 (by decide +kernel) rfl rfl (by decide) (Nat.zero_le _) (by decide +kernel) ?_
  refine (cmd_lay hR).mono (fun v N hN x hx => ?_)
  subst hx
  refine L_m dL_law_821 ?_
  refine L_arg (n := n) (k := 1) dL_law_822 dL_law_823 dL_law_824 dL_law_825 dL_law_826 (by decide) hi (by omega) hL ?_
  refine L_call (j := 184) (n := 2) (ci := 6) (pl := 59) (r := 1) (as := [.int (xs (n + 1))]) (rest := [.int x]) dL_law_827 (by decide +kernel) rfl rfl (by decide) (show 1 ≤ 4 by decide) (by decide +kernel) ?_
  refine hN.mono (fun w K hK y hy => ?_)
  obtain ⟨e1, hK⟩ := hK
  subst hy
  cases e1
  exact L_eq dL_law_830 (by decide) (h K hK)
theorem K_best (hR : RM M) (hi : i = nI n) (hn : n + 6 ≤ L) (hL : L ≤ 3072) (h : ∀ K, RM K → LwP L xs 1488 i [] K) : LwP L xs 835 i [] M := by
  refine L_x dL_law_835 ?_
  refine L_call (j := 79) (n := 1) (ci := 5) (pl := 0) (r := 1) (as := []) (rest := []) dL_law_836 (by decide +kernel) rfl rfl (by decide) (Nat.zero_le _) (by decide +kernel) ?_
  refine (cmd_best hR).mono (fun v N hN x hx => ?_)
  subst hx
  refine L_m dL_law_839 ?_
  refine L_call (j := 185) (n := 1) (ci := 6) (pl := 59) (r := 1) (as := []) (rest := [.int x]) dL_law_840 (by decide +kernel) rfl rfl (by decide) (show 1 ≤ 4 by decide) (by decide +kernel) ?_
  refine hN.mono (fun w K hK y hy => ?_)
  obtain ⟨e1, hK⟩ := hK
  subst hy
  cases e1
  exact L_eq dL_law_843 (by decide) (h K hK)
theorem K_unlike (hR : RM M) (hi : i = nI n) (hn : n + 6 ≤ L) (hL : L ≤ 3072) (h : ∀ K, RM K → LwP L xs 1488 i [] K) : LwP L xs 848 i [] M := by
  refine L_x dL_law_848 ?_
  refine L_arg (n := n) (k := 1) dL_law_849 dL_law_850 dL_law_851 dL_law_852 dL_law_853 (by decide) hi (by omega) hL ?_
  refine L_arg (n := n) (k := 2) dL_law_854 dL_law_855 dL_law_856 dL_law_857 dL_law_858 (by decide) hi (by omega) hL ?_
  refine L_call (j := 80) (n := 3) (ci := 5) (pl := 0) (r := 1) (as := [.int (xs (n + 1)), .int (xs (n + 2))]) (rest := []) dL_law_859 (by decide +kernel) rfl rfl (by decide) (Nat.zero_le _) (by decide +kernel) ?_
  refine (cmd_unlike hR).mono (fun v N hN x hx => ?_)
  subst hx
  refine L_m dL_law_862 ?_
  refine L_arg (n := n) (k := 1) dL_law_863 dL_law_864 dL_law_865 dL_law_866 dL_law_867 (by decide) hi (by omega) hL ?_
  refine L_arg (n := n) (k := 2) dL_law_868 dL_law_869 dL_law_870 dL_law_871 dL_law_872 (by decide) hi (by omega) hL ?_
  refine L_call (j := 187) (n := 3) (ci := 6) (pl := 59) (r := 1) (as := [.int (xs (n + 1)), .int (xs (n + 2))]) (rest := [.int x]) dL_law_873 (by decide +kernel) rfl rfl (by decide) (show 1 ≤ 4 by decide) (by decide +kernel) ?_
  refine hN.mono (fun w K hK y hy => ?_)
  obtain ⟨e1, hK⟩ := hK
  subst hy
  cases e1
  exact L_eq dL_law_876 (by decide) (h K hK)
theorem K_taken (hR : RM M) (hi : i = nI n) (hn : n + 6 ≤ L) (hL : L ≤ 3072) (h : ∀ K, RM K → LwP L xs 1488 i [] K) : LwP L xs 881 i [] M := by
  refine L_x dL_law_881 ?_
  refine L_arg (n := n) (k := 1) dL_law_882 dL_law_883 dL_law_884 dL_law_885 dL_law_886 (by decide) hi (by omega) hL ?_
  refine L_call (j := 81) (n := 2) (ci := 5) (pl := 0) (r := 1) (as := [.int (xs (n + 1))]) (rest := []) dL_law_887 (by decide +kernel) rfl rfl (by decide) (Nat.zero_le _) (by decide +kernel) ?_
  refine (cmd_taken hR).mono (fun v N hN x hx => ?_)
  subst hx
  refine L_m dL_law_890 ?_
  refine L_arg (n := n) (k := 1) dL_law_891 dL_law_892 dL_law_893 dL_law_894 dL_law_895 (by decide) hi (by omega) hL ?_
  refine L_call (j := 188) (n := 2) (ci := 6) (pl := 59) (r := 1) (as := [.int (xs (n + 1))]) (rest := [.int x]) dL_law_896 (by decide +kernel) rfl rfl (by decide) (show 1 ≤ 4 by decide) (by decide +kernel) ?_
  refine hN.mono (fun w K hK y hy => ?_)
  obtain ⟨e1, hK⟩ := hK
  subst hy
  cases e1
  exact L_eq dL_law_899 (by decide) (h K hK)
theorem K_fits (hR : RM M) (hi : i = nI n) (hn : n + 6 ≤ L) (hL : L ≤ 3072) (h : ∀ K, RM K → LwP L xs 1488 i [] K) : LwP L xs 904 i [] M := by
  refine L_x dL_law_904 ?_
  refine L_arg (n := n) (k := 1) dL_law_905 dL_law_906 dL_law_907 dL_law_908 dL_law_909 (by decide) hi (by omega) hL ?_
  refine L_arg (n := n) (k := 2) dL_law_910 dL_law_911 dL_law_912 dL_law_913 dL_law_914 (by decide) hi (by omega) hL ?_
  refine L_call (j := 82) (n := 3) (ci := 5) (pl := 0) (r := 1) (as := [.int (xs (n + 1)), .int (xs (n + 2))]) (rest := []) dL_law_915 (by decide +kernel) rfl rfl (by decide) (Nat.zero_le _) (by decide +kernel) ?_
  refine (cmd_fits hR).mono (fun v N hN x hx => ?_)
  subst hx
  refine L_m dL_law_918 ?_
  refine L_arg (n := n) (k := 1) dL_law_919 dL_law_920 dL_law_921 dL_law_922 dL_law_923 (by decide) hi (by omega) hL ?_
  refine L_arg (n := n) (k := 2) dL_law_924 dL_law_925 dL_law_926 dL_law_927 dL_law_928 (by decide) hi (by omega) hL ?_
  refine L_call (j := 193) (n := 3) (ci := 6) (pl := 59) (r := 1) (as := [.int (xs (n + 1)), .int (xs (n + 2))]) (rest := [.int x]) dL_law_929 (by decide +kernel) rfl rfl (by decide) (show 1 ≤ 4 by decide) (by decide +kernel) ?_
  refine hN.mono (fun w K hK y hy => ?_)
  obtain ⟨e1, hK⟩ := hK
  subst hy
  cases e1
  exact L_eq dL_law_932 (by decide) (h K hK)
theorem K_gait (hR : RM M) (hi : i = nI n) (hn : n + 6 ≤ L) (hL : L ≤ 3072) (h : ∀ K, RM K → LwP L xs 1488 i [] K) : LwP L xs 937 i [] M := by
  refine L_x dL_law_937 ?_
  refine L_arg (n := n) (k := 1) dL_law_938 dL_law_939 dL_law_940 dL_law_941 dL_law_942 (by decide) hi (by omega) hL ?_
  refine L_arg (n := n) (k := 2) dL_law_943 dL_law_944 dL_law_945 dL_law_946 dL_law_947 (by decide) hi (by omega) hL ?_
  refine L_call (j := 83) (n := 3) (ci := 5) (pl := 0) (r := 1) (as := [.int (xs (n + 1)), .int (xs (n + 2))]) (rest := []) dL_law_948 (by decide +kernel) rfl rfl (by decide) (Nat.zero_le _) (by decide +kernel) ?_
  refine (cmd_gait hR).mono (fun v N hN x hx => ?_)
  subst hx
  refine L_m dL_law_951 ?_
  refine L_arg (n := n) (k := 1) dL_law_952 dL_law_953 dL_law_954 dL_law_955 dL_law_956 (by decide) hi (by omega) hL ?_
  refine L_arg (n := n) (k := 2) dL_law_957 dL_law_958 dL_law_959 dL_law_960 dL_law_961 (by decide) hi (by omega) hL ?_
  refine L_call (j := 194) (n := 3) (ci := 6) (pl := 59) (r := 1) (as := [.int (xs (n + 1)), .int (xs (n + 2))]) (rest := [.int x]) dL_law_962 (by decide +kernel) rfl rfl (by decide) (show 1 ≤ 4 by decide) (by decide +kernel) ?_
  refine hN.mono (fun w K hK y hy => ?_)
  obtain ⟨e1, hK⟩ := hK
  subst hy
  cases e1
  exact L_eq dL_law_965 (by decide) (h K hK)
theorem K_who (hR : RM M) (hi : i = nI n) (hn : n + 6 ≤ L) (hL : L ≤ 3072) (h : ∀ K, RM K → LwP L xs 1488 i [] K) : LwP L xs 970 i [] M := by
  refine L_x dL_law_970 ?_
  refine L_arg (n := n) (k := 1) dL_law_971 dL_law_972 dL_law_973 dL_law_974 dL_law_975 (by decide) hi (by omega) hL ?_
  refine L_call (j := 84) (n := 2) (ci := 5) (pl := 0) (r := 1) (as := [.int (xs (n + 1))]) (rest := []) dL_law_976 (by decide +kernel) rfl rfl (by decide) (Nat.zero_le _) (by decide +kernel) ?_
  refine (cmd_who hR).mono (fun v N hN x hx => ?_)
  subst hx
  refine L_m dL_law_979 ?_
  refine L_arg (n := n) (k := 1) dL_law_980 dL_law_981 dL_law_982 dL_law_983 dL_law_984 (by decide) hi (by omega) hL ?_
  refine L_call (j := 195) (n := 2) (ci := 6) (pl := 59) (r := 1) (as := [.int (xs (n + 1))]) (rest := [.int x]) dL_law_985 (by decide +kernel) rfl rfl (by decide) (show 1 ≤ 4 by decide) (by decide +kernel) ?_
  refine hN.mono (fun w K hK y hy => ?_)
  obtain ⟨e1, hK⟩ := hK
  subst hy
  cases e1
  exact L_eq dL_law_988 (by decide) (h K hK)
theorem K_strangers (hR : RM M) (hi : i = nI n) (hn : n + 6 ≤ L) (hL : L ≤ 3072) (h : ∀ K, RM K → LwP L xs 1488 i [] K) : LwP L xs 993 i [] M := by
  refine L_x dL_law_993 ?_
  refine L_arg (n := n) (k := 1) dL_law_994 dL_law_995 dL_law_996 dL_law_997 dL_law_998 (by decide) hi (by omega) hL ?_
  refine L_call (j := 85) (n := 2) (ci := 5) (pl := 0) (r := 1) (as := [.int (xs (n + 1))]) (rest := []) dL_law_999 (by decide +kernel) rfl rfl (by decide) (Nat.zero_le _) (by decide +kernel) ?_
  refine (cmd_strangers hR).mono (fun v N hN x hx => ?_)
  subst hx
  refine L_m dL_law_1002 ?_
  refine L_arg (n := n) (k := 1) dL_law_1003 dL_law_1004 dL_law_1005 dL_law_1006 dL_law_1007 (by decide) hi (by omega) hL ?_
  refine L_call (j := 197) (n := 2) (ci := 6) (pl := 59) (r := 1) (as := [.int (xs (n + 1))]) (rest := [.int x]) dL_law_1008 (by decide +kernel) rfl rfl (by decide) (show 1 ≤ 4 by decide) (by decide +kernel) ?_
  refine hN.mono (fun w K hK y hy => ?_)
  obtain ⟨e1, hK⟩ := hK
  subst hy
  cases e1
  exact L_eq dL_law_1011 (by decide) (h K hK)
theorem K_odds (hR : RM M) (hi : i = nI n) (hn : n + 6 ≤ L) (hL : L ≤ 3072) (h : ∀ K, RM K → LwP L xs 1488 i [] K) : LwP L xs 1016 i [] M := by
  refine L_x dL_law_1016 ?_
  refine L_arg (n := n) (k := 1) dL_law_1017 dL_law_1018 dL_law_1019 dL_law_1020 dL_law_1021 (by decide) hi (by omega) hL ?_
  refine L_arg (n := n) (k := 2) dL_law_1022 dL_law_1023 dL_law_1024 dL_law_1025 dL_law_1026 (by decide) hi (by omega) hL ?_
  refine L_arg (n := n) (k := 3) dL_law_1027 dL_law_1028 dL_law_1029 dL_law_1030 dL_law_1031 (by decide) hi (by omega) hL ?_
  refine L_callL (j := 86) (n := 4) (ci := 5) (pl := 0) (r := 1) (as := [.int (xs (n + 1)), .int (xs (n + 2)), .int (xs (n + 3))]) (rest := []) dL_law_1032 (by decide +kernel) rfl rfl (by decide) (Nat.zero_le _) (by decide +kernel) ?_
  refine (cmd_odds hR).mono (fun v N hN x hx => ?_)
  subst hx
  refine L_m dL_law_1035 ?_
  refine L_arg (n := n) (k := 1) dL_law_1036 dL_law_1037 dL_law_1038 dL_law_1039 dL_law_1040 (by decide) hi (by omega) hL ?_
  refine L_arg (n := n) (k := 2) dL_law_1041 dL_law_1042 dL_law_1043 dL_law_1044 dL_law_1045 (by decide) hi (by omega) hL ?_
  refine L_arg (n := n) (k := 3) dL_law_1046 dL_law_1047 dL_law_1048 dL_law_1049 dL_law_1050 (by decide) hi (by omega) hL ?_
  refine L_callL (j := 198) (n := 4) (ci := 6) (pl := 59) (r := 1) (as := [.int (xs (n + 1)), .int (xs (n + 2)), .int (xs (n + 3))]) (rest := [.long x]) dL_law_1051 (by decide +kernel) rfl rfl (by decide) (show 1 ≤ 4 by decide) (by decide +kernel) ?_
  refine hN.mono (fun w K hK y hy => ?_)
  obtain ⟨e1, hK⟩ := hK
  subst hy
  cases e1
  exact L_eqL dL_law_1054 dL_law_1055 (by decide) (h K hK)
theorem K_seed (hR : RM M) (hi : i = nI n) (hn : n + 6 ≤ L) (hL : L ≤ 3072) (h : ∀ K, RM K → LwP L xs 1488 i [] K) : LwP L xs 1060 i [] M := by
  refine L_x dL_law_1060 ?_
  refine L_arg (n := n) (k := 1) dL_law_1061 dL_law_1062 dL_law_1063 dL_law_1064 dL_law_1065 (by decide) hi (by omega) hL ?_
  refine L_call (j := 87) (n := 2) (ci := 5) (pl := 0) (r := 1) (as := [.int (xs (n + 1))]) (rest := []) dL_law_1066 (by decide +kernel) rfl rfl (by decide) (Nat.zero_le _) (by decide +kernel) ?_
  refine (cmd_seed hR).mono (fun v N hN x hx => ?_)
  subst hx
  refine L_m dL_law_1069 ?_
  refine L_arg (n := n) (k := 1) dL_law_1070 dL_law_1071 dL_law_1072 dL_law_1073 dL_law_1074 (by decide) hi (by omega) hL ?_
  refine L_call (j := 199) (n := 2) (ci := 6) (pl := 59) (r := 1) (as := [.int (xs (n + 1))]) (rest := [.int x]) dL_law_1075 (by decide +kernel) rfl rfl (by decide) (show 1 ≤ 4 by decide) (by decide +kernel) ?_
  refine hN.mono (fun w K hK y hy => ?_)
  obtain ⟨e1, hK⟩ := hK
  subst hy
  cases e1
  exact L_eq dL_law_1078 (by decide) (h K hK)
theorem K_feed (hR : RM M) (hi : i = nI n) (hn : n + 6 ≤ L) (hL : L ≤ 3072) (h : ∀ K, RM K → LwP L xs 1488 i [] K) : LwP L xs 1083 i [] M := by
  refine L_x dL_law_1083 ?_
  refine L_arg (n := n) (k := 1) dL_law_1084 dL_law_1085 dL_law_1086 dL_law_1087 dL_law_1088 (by decide) hi (by omega) hL ?_
  refine L_arg (n := n) (k := 2) dL_law_1089 dL_law_1090 dL_law_1091 dL_law_1092 dL_law_1093 (by decide) hi (by omega) hL ?_
  refine L_call (j := 88) (n := 3) (ci := 5) (pl := 0) (r := 1) (as := [.int (xs (n + 1)), .int (xs (n + 2))]) (rest := []) dL_law_1094 (by decide +kernel) rfl rfl (by decide) (Nat.zero_le _) (by decide +kernel) ?_
  refine (cmd_feed hR).mono (fun v N hN x hx => ?_)
  subst hx
  refine L_m dL_law_1097 ?_
  refine L_arg (n := n) (k := 1) dL_law_1098 dL_law_1099 dL_law_1100 dL_law_1101 dL_law_1102 (by decide) hi (by omega) hL ?_
  refine L_arg (n := n) (k := 2) dL_law_1103 dL_law_1104 dL_law_1105 dL_law_1106 dL_law_1107 (by decide) hi (by omega) hL ?_
  refine L_call (j := 200) (n := 3) (ci := 6) (pl := 59) (r := 1) (as := [.int (xs (n + 1)), .int (xs (n + 2))]) (rest := [.int x]) dL_law_1108 (by decide +kernel) rfl rfl (by decide) (show 1 ≤ 4 by decide) (by decide +kernel) ?_
  refine hN.mono (fun w K hK y hy => ?_)
  obtain ⟨e1, hK⟩ := hK
  subst hy
  cases e1
  exact L_eq dL_law_1111 (by decide) (h K hK)
theorem K_wipe (hR : RM M) (hi : i = nI n) (hn : n + 6 ≤ L) (hL : L ≤ 3072) (h : ∀ K, RM K → LwP L xs 1488 i [] K) : LwP L xs 1116 i [] M := by
  refine L_x dL_law_1116 ?_
  refine L_call (j := 89) (n := 1) (ci := 5) (pl := 0) (r := 1) (as := []) (rest := []) dL_law_1117 (by decide +kernel) rfl rfl (by decide) (Nat.zero_le _) (by decide +kernel) ?_
  refine (cmd_wipe hR).mono (fun v N hN x hx => ?_)
  subst hx
  refine L_m dL_law_1120 ?_
  refine L_call (j := 201) (n := 1) (ci := 6) (pl := 59) (r := 1) (as := []) (rest := [.int x]) dL_law_1121 (by decide +kernel) rfl rfl (by decide) (show 1 ≤ 4 by decide) (by decide +kernel) ?_
  refine hN.mono (fun w K hK y hy => ?_)
  obtain ⟨e1, hK⟩ := hK
  subst hy
  cases e1
  exact L_eq dL_law_1124 (by decide) (h K hK)
theorem K_text (hR : RM M) (hi : i = nI n) (hn : n + 6 ≤ L) (hL : L ≤ 3072) (h : ∀ K, RM K → LwP L xs 1488 i [] K) : LwP L xs 1129 i [] M := by
  refine L_x dL_law_1129 ?_
  refine L_call (j := 90) (n := 1) (ci := 5) (pl := 0) (r := 1) (as := []) (rest := []) dL_law_1130 (by decide +kernel) rfl rfl (by decide) (Nat.zero_le _) (by decide +kernel) ?_
  refine (cmd_text hR).mono (fun v N hN x hx => ?_)
  subst hx
  refine L_m dL_law_1133 ?_
  refine L_call (j := 212) (n := 1) (ci := 6) (pl := 59) (r := 1) (as := []) (rest := [.int x]) dL_law_1134 (by decide +kernel) rfl rfl (by decide) (show 1 ≤ 4 by decide) (by decide +kernel) ?_
  refine hN.mono (fun w K hK y hy => ?_)
  obtain ⟨e1, hK⟩ := hK
  subst hy
  cases e1
  exact L_eq dL_law_1137 (by decide) (h K hK)
theorem K_hold (hR : RM M) (hi : i = nI n) (hn : n + 6 ≤ L) (hL : L ≤ 3072) (h : ∀ K, RM K → LwP L xs 1488 i [] K) : LwP L xs 1142 i [] M := by
  refine L_x dL_law_1142 ?_
  refine L_arg (n := n) (k := 1) dL_law_1143 dL_law_1144 dL_law_1145 dL_law_1146 dL_law_1147 (by decide) hi (by omega) hL ?_
  refine L_arg (n := n) (k := 2) dL_law_1148 dL_law_1149 dL_law_1150 dL_law_1151 dL_law_1152 (by decide) hi (by omega) hL ?_
  refine L_call (j := 91) (n := 3) (ci := 5) (pl := 0) (r := 1) (as := [.int (xs (n + 1)), .int (xs (n + 2))]) (rest := []) dL_law_1153 (by decide +kernel) rfl rfl (by decide) (Nat.zero_le _) (by decide +kernel) ?_
  refine (cmd_hold hR).mono (fun v N hN x hx => ?_)
  subst hx
  refine L_m dL_law_1156 ?_
  refine L_arg (n := n) (k := 1) dL_law_1157 dL_law_1158 dL_law_1159 dL_law_1160 dL_law_1161 (by decide) hi (by omega) hL ?_
  refine L_arg (n := n) (k := 2) dL_law_1162 dL_law_1163 dL_law_1164 dL_law_1165 dL_law_1166 (by decide) hi (by omega) hL ?_
  refine L_call (j := 214) (n := 3) (ci := 6) (pl := 59) (r := 1) (as := [.int (xs (n + 1)), .int (xs (n + 2))]) (rest := [.int x]) dL_law_1167 (by decide +kernel) rfl rfl (by decide) (show 1 ≤ 4 by decide) (by decide +kernel) ?_
  refine hN.mono (fun w K hK y hy => ?_)
  obtain ⟨e1, hK⟩ := hK
  subst hy
  cases e1
  exact L_eq dL_law_1170 (by decide) (h K hK)
theorem K_as (hR : RM M) (hi : i = nI n) (hn : n + 6 ≤ L) (hL : L ≤ 3072) (h : ∀ K, RM K → LwP L xs 1488 i [] K) : LwP L xs 1175 i [] M := by
  refine L_x dL_law_1175 ?_
  refine L_arg (n := n) (k := 1) dL_law_1176 dL_law_1177 dL_law_1178 dL_law_1179 dL_law_1180 (by decide) hi (by omega) hL ?_
  refine L_arg (n := n) (k := 2) dL_law_1181 dL_law_1182 dL_law_1183 dL_law_1184 dL_law_1185 (by decide) hi (by omega) hL ?_
  refine L_call (j := 92) (n := 3) (ci := 5) (pl := 0) (r := 1) (as := [.int (xs (n + 1)), .int (xs (n + 2))]) (rest := []) dL_law_1186 (by decide +kernel) rfl rfl (by decide) (Nat.zero_le _) (by decide +kernel) ?_
  refine (cmd_as hR).mono (fun v N hN x hx => ?_)
  subst hx
  refine L_m dL_law_1189 ?_
  refine L_arg (n := n) (k := 1) dL_law_1190 dL_law_1191 dL_law_1192 dL_law_1193 dL_law_1194 (by decide) hi (by omega) hL ?_
  refine L_arg (n := n) (k := 2) dL_law_1195 dL_law_1196 dL_law_1197 dL_law_1198 dL_law_1199 (by decide) hi (by omega) hL ?_
  refine L_call (j := 215) (n := 3) (ci := 6) (pl := 59) (r := 1) (as := [.int (xs (n + 1)), .int (xs (n + 2))]) (rest := [.int x]) dL_law_1200 (by decide +kernel) rfl rfl (by decide) (show 1 ≤ 4 by decide) (by decide +kernel) ?_
  refine hN.mono (fun w K hK y hy => ?_)
  obtain ⟨e1, hK⟩ := hK
  subst hy
  cases e1
  exact L_eq dL_law_1203 (by decide) (h K hK)
theorem K_sheet (hR : RM M) (hi : i = nI n) (hn : n + 6 ≤ L) (hL : L ≤ 3072) (h : ∀ K, RM K → LwP L xs 1488 i [] K) : LwP L xs 1208 i [] M := by
  refine L_x dL_law_1208 ?_
  refine L_arg (n := n) (k := 1) dL_law_1209 dL_law_1210 dL_law_1211 dL_law_1212 dL_law_1213 (by decide) hi (by omega) hL ?_
  refine L_arg (n := n) (k := 2) dL_law_1214 dL_law_1215 dL_law_1216 dL_law_1217 dL_law_1218 (by decide) hi (by omega) hL ?_
  refine L_arg (n := n) (k := 3) dL_law_1219 dL_law_1220 dL_law_1221 dL_law_1222 dL_law_1223 (by decide) hi (by omega) hL ?_
  refine L_call (j := 93) (n := 4) (ci := 5) (pl := 0) (r := 1) (as := [.int (xs (n + 1)), .int (xs (n + 2)), .int (xs (n + 3))]) (rest := []) dL_law_1224 (by decide +kernel) rfl rfl (by decide) (Nat.zero_le _) (by decide +kernel) ?_
  refine (cmd_sheet hR).mono (fun v N hN x hx => ?_)
  subst hx
  refine L_m dL_law_1227 ?_
  refine L_arg (n := n) (k := 1) dL_law_1228 dL_law_1229 dL_law_1230 dL_law_1231 dL_law_1232 (by decide) hi (by omega) hL ?_
  refine L_arg (n := n) (k := 2) dL_law_1233 dL_law_1234 dL_law_1235 dL_law_1236 dL_law_1237 (by decide) hi (by omega) hL ?_
  refine L_arg (n := n) (k := 3) dL_law_1238 dL_law_1239 dL_law_1240 dL_law_1241 dL_law_1242 (by decide) hi (by omega) hL ?_
  refine L_call (j := 218) (n := 4) (ci := 6) (pl := 59) (r := 1) (as := [.int (xs (n + 1)), .int (xs (n + 2)), .int (xs (n + 3))]) (rest := [.int x]) dL_law_1243 (by decide +kernel) rfl rfl (by decide) (show 1 ≤ 4 by decide) (by decide +kernel) ?_
  refine hN.mono (fun w K hK y hy => ?_)
  obtain ⟨e1, hK⟩ := hK
  subst hy
  cases e1
  exact L_eq dL_law_1246 (by decide) (h K hK)
theorem K_write (hR : RM M) (hi : i = nI n) (hn : n + 6 ≤ L) (hL : L ≤ 3072) (h : ∀ K, RM K → LwP L xs 1488 i [] K) : LwP L xs 1251 i [] M := by
  refine L_x dL_law_1251 ?_
  refine L_arg (n := n) (k := 1) dL_law_1252 dL_law_1253 dL_law_1254 dL_law_1255 dL_law_1256 (by decide) hi (by omega) hL ?_
  refine L_arg (n := n) (k := 2) dL_law_1257 dL_law_1258 dL_law_1259 dL_law_1260 dL_law_1261 (by decide) hi (by omega) hL ?_
  refine L_arg (n := n) (k := 3) dL_law_1262 dL_law_1263 dL_law_1264 dL_law_1265 dL_law_1266 (by decide) hi (by omega) hL ?_
  refine L_call (j := 94) (n := 4) (ci := 5) (pl := 0) (r := 1) (as := [.int (xs (n + 1)), .int (xs (n + 2)), .int (xs (n + 3))]) (rest := []) dL_law_1267 (by decide +kernel) rfl rfl (by decide) (Nat.zero_le _) (by decide +kernel) ?_
  refine (cmd_write hR).mono (fun v N hN x hx => ?_)
  subst hx
  refine L_m dL_law_1270 ?_
  refine L_arg (n := n) (k := 1) dL_law_1271 dL_law_1272 dL_law_1273 dL_law_1274 dL_law_1275 (by decide) hi (by omega) hL ?_
  refine L_arg (n := n) (k := 2) dL_law_1276 dL_law_1277 dL_law_1278 dL_law_1279 dL_law_1280 (by decide) hi (by omega) hL ?_
  refine L_arg (n := n) (k := 3) dL_law_1281 dL_law_1282 dL_law_1283 dL_law_1284 dL_law_1285 (by decide) hi (by omega) hL ?_
  refine L_call (j := 219) (n := 4) (ci := 6) (pl := 59) (r := 1) (as := [.int (xs (n + 1)), .int (xs (n + 2)), .int (xs (n + 3))]) (rest := [.int x]) dL_law_1286 (by decide +kernel) rfl rfl (by decide) (show 1 ≤ 4 by decide) (by decide +kernel) ?_
  refine hN.mono (fun w K hK y hy => ?_)
  obtain ⟨e1, hK⟩ := hK
  subst hy
  cases e1
  exact L_eq dL_law_1289 (by decide) (h K hK)
theorem K_copy (hR : RM M) (hi : i = nI n) (hn : n + 6 ≤ L) (hL : L ≤ 3072) (h : ∀ K, RM K → LwP L xs 1488 i [] K) : LwP L xs 1294 i [] M := by
  refine L_x dL_law_1294 ?_
  refine L_arg (n := n) (k := 1) dL_law_1295 dL_law_1296 dL_law_1297 dL_law_1298 dL_law_1299 (by decide) hi (by omega) hL ?_
  refine L_arg (n := n) (k := 2) dL_law_1300 dL_law_1301 dL_law_1302 dL_law_1303 dL_law_1304 (by decide) hi (by omega) hL ?_
  refine L_arg (n := n) (k := 3) dL_law_1305 dL_law_1306 dL_law_1307 dL_law_1308 dL_law_1309 (by decide) hi (by omega) hL ?_
  refine L_arg (n := n) (k := 4) dL_law_1310 dL_law_1311 dL_law_1312 dL_law_1313 dL_law_1314 (by decide) hi (by omega) hL ?_
  refine L_arg (n := n) (k := 5) dL_law_1315 dL_law_1316 dL_law_1317 dL_law_1318 dL_law_1319 (by decide) hi (by omega) hL ?_
  refine L_call (j := 95) (n := 6) (ci := 5) (pl := 0) (r := 1) (as := [.int (xs (n + 1)), .int (xs (n + 2)), .int (xs (n + 3)), .int (xs (n + 4)), .int (xs (n + 5))]) (rest := []) dL_law_1320 (by decide +kernel) rfl rfl (by decide) (Nat.zero_le _) (by decide +kernel) ?_
  refine (cmd_copy hR).mono (fun v N hN x hx => ?_)
  subst hx
  refine L_m dL_law_1323 ?_
  refine L_arg (n := n) (k := 1) dL_law_1324 dL_law_1325 dL_law_1326 dL_law_1327 dL_law_1328 (by decide) hi (by omega) hL ?_
  refine L_arg (n := n) (k := 2) dL_law_1329 dL_law_1330 dL_law_1331 dL_law_1332 dL_law_1333 (by decide) hi (by omega) hL ?_
  refine L_arg (n := n) (k := 3) dL_law_1334 dL_law_1335 dL_law_1336 dL_law_1337 dL_law_1338 (by decide) hi (by omega) hL ?_
  refine L_arg (n := n) (k := 4) dL_law_1339 dL_law_1340 dL_law_1341 dL_law_1342 dL_law_1343 (by decide) hi (by omega) hL ?_
  refine L_arg (n := n) (k := 5) dL_law_1344 dL_law_1345 dL_law_1346 dL_law_1347 dL_law_1348 (by decide) hi (by omega) hL ?_
  refine L_call (j := 220) (n := 6) (ci := 6) (pl := 59) (r := 1) (as := [.int (xs (n + 1)), .int (xs (n + 2)), .int (xs (n + 3)), .int (xs (n + 4)), .int (xs (n + 5))]) (rest := [.int x]) dL_law_1349 (by decide +kernel) rfl rfl (by decide) (show 1 ≤ 4 by decide) (by decide +kernel) ?_
  refine hN.mono (fun w K hK y hy => ?_)
  obtain ⟨e1, hK⟩ := hK
  subst hy
  cases e1
  exact L_eq dL_law_1352 (by decide) (h K hK)
theorem K_load (hR : RM M) (hi : i = nI n) (hn : n + 6 ≤ L) (hL : L ≤ 3072) (h : ∀ K, RM K → LwP L xs 1488 i [] K) : LwP L xs 1357 i [] M := by
  refine L_x dL_law_1357 ?_
  refine L_arg (n := n) (k := 1) dL_law_1358 dL_law_1359 dL_law_1360 dL_law_1361 dL_law_1362 (by decide) hi (by omega) hL ?_
  refine L_call (j := 96) (n := 2) (ci := 5) (pl := 0) (r := 1) (as := [.int (xs (n + 1))]) (rest := []) dL_law_1363 (by decide +kernel) rfl rfl (by decide) (Nat.zero_le _) (by decide +kernel) ?_
  refine (cmd_load hR).mono (fun v N hN x hx => ?_)
  subst hx
  refine L_m dL_law_1366 ?_
  refine L_arg (n := n) (k := 1) dL_law_1367 dL_law_1368 dL_law_1369 dL_law_1370 dL_law_1371 (by decide) hi (by omega) hL ?_
  refine L_call (j := 223) (n := 2) (ci := 6) (pl := 59) (r := 1) (as := [.int (xs (n + 1))]) (rest := [.int x]) dL_law_1372 (by decide +kernel) rfl rfl (by decide) (show 1 ≤ 4 by decide) (by decide +kernel) ?_
  refine hN.mono (fun w K hK y hy => ?_)
  obtain ⟨e1, hK⟩ := hK
  subst hy
  cases e1
  exact L_eq dL_law_1375 (by decide) (h K hK)
theorem K_judge (hR : RM M) (hi : i = nI n) (hn : n + 6 ≤ L) (hL : L ≤ 3072) (h : ∀ K, RM K → LwP L xs 1488 i [] K) : LwP L xs 1380 i [] M := by
  refine L_x dL_law_1380 ?_
  refine L_arg (n := n) (k := 1) dL_law_1381 dL_law_1382 dL_law_1383 dL_law_1384 dL_law_1385 (by decide) hi (by omega) hL ?_
  refine L_call (j := 97) (n := 2) (ci := 5) (pl := 0) (r := 1) (as := [.int (xs (n + 1))]) (rest := []) dL_law_1386 (by decide +kernel) rfl rfl (by decide) (Nat.zero_le _) (by decide +kernel) ?_
  refine (cmd_judge hR).mono (fun v N hN x hx => ?_)
  subst hx
  refine L_m dL_law_1389 ?_
  refine L_arg (n := n) (k := 1) dL_law_1390 dL_law_1391 dL_law_1392 dL_law_1393 dL_law_1394 (by decide) hi (by omega) hL ?_
  refine L_call (j := 224) (n := 2) (ci := 6) (pl := 59) (r := 1) (as := [.int (xs (n + 1))]) (rest := [.int x]) dL_law_1395 (by decide +kernel) rfl rfl (by decide) (show 1 ≤ 4 by decide) (by decide +kernel) ?_
  refine hN.mono (fun w K hK y hy => ?_)
  obtain ⟨e1, hK⟩ := hK
  subst hy
  cases e1
  exact L_eq dL_law_1398 (by decide) (h K hK)
theorem K_image (hR : RM M) (hi : i = nI n) (hn : n + 6 ≤ L) (hL : L ≤ 3072) (h : ∀ K, RM K → LwP L xs 1488 i [] K) : LwP L xs 1403 i [] M := by
  refine L_x dL_law_1403 ?_
  refine L_call (j := 98) (n := 1) (ci := 5) (pl := 0) (r := 1) (as := []) (rest := []) dL_law_1404 (by decide +kernel) rfl rfl (by decide) (Nat.zero_le _) (by decide +kernel) ?_
  refine (cmd_image hR).mono (fun v N hN x hx => ?_)
  subst hx
  refine L_m dL_law_1407 ?_
  refine L_call (j := 225) (n := 1) (ci := 6) (pl := 59) (r := 1) (as := []) (rest := [.int x]) dL_law_1408 (by decide +kernel) rfl rfl (by decide) (show 1 ≤ 4 by decide) (by decide +kernel) ?_
  refine hN.mono (fun w K hK y hy => ?_)
  obtain ⟨e1, hK⟩ := hK
  subst hy
  cases e1
  exact L_eq dL_law_1411 (by decide) (h K hK)
theorem K_undo (hR : RM M) (hi : i = nI n) (hn : n + 6 ≤ L) (hL : L ≤ 3072) (h : ∀ K, RM K → LwP L xs 1488 i [] K) : LwP L xs 1416 i [] M := by
  refine L_x dL_law_1416 ?_
  refine L_call (j := 99) (n := 1) (ci := 5) (pl := 0) (r := 1) (as := []) (rest := []) dL_law_1417 (by decide +kernel) rfl rfl (by decide) (Nat.zero_le _) (by decide +kernel) ?_
  refine (cmd_undo hR).mono (fun v N hN x hx => ?_)
  subst hx
  refine L_m dL_law_1420 ?_
  refine L_call (j := 226) (n := 1) (ci := 6) (pl := 59) (r := 1) (as := []) (rest := [.int x]) dL_law_1421 (by decide +kernel) rfl rfl (by decide) (show 1 ≤ 4 by decide) (by decide +kernel) ?_
  refine hN.mono (fun w K hK y hy => ?_)
  obtain ⟨e1, hK⟩ := hK
  subst hy
  cases e1
  exact L_eq dL_law_1424 (by decide) (h K hK)
theorem K_tear (hR : RM M) (hi : i = nI n) (hn : n + 6 ≤ L) (hL : L ≤ 3072) (h : ∀ K, RM K → LwP L xs 1488 i [] K) : LwP L xs 1429 i [] M := by
  refine L_x dL_law_1429 ?_
  refine L_call (j := 100) (n := 1) (ci := 5) (pl := 0) (r := 1) (as := []) (rest := []) dL_law_1430 (by decide +kernel) rfl rfl (by decide) (Nat.zero_le _) (by decide +kernel) ?_
  refine (cmd_tear hR).mono (fun v N hN x hx => ?_)
  subst hx
  refine L_m dL_law_1433 ?_
  refine L_call (j := 227) (n := 1) (ci := 6) (pl := 59) (r := 1) (as := []) (rest := [.int x]) dL_law_1434 (by decide +kernel) rfl rfl (by decide) (show 1 ≤ 4 by decide) (by decide +kernel) ?_
  refine hN.mono (fun w K hK y hy => ?_)
  obtain ⟨e1, hK⟩ := hK
  subst hy
  cases e1
  exact L_eq dL_law_1437 (by decide) (h K hK)
theorem K_count (hR : RM M) (hi : i = nI n) (hn : n + 6 ≤ L) (hL : L ≤ 3072) (h : ∀ K, RM K → LwP L xs 1488 i [] K) : LwP L xs 1442 i [] M := by
  refine L_x dL_law_1442 ?_
  refine L_arg (n := n) (k := 1) dL_law_1443 dL_law_1444 dL_law_1445 dL_law_1446 dL_law_1447 (by decide) hi (by omega) hL ?_
  refine L_call (j := 101) (n := 2) (ci := 5) (pl := 0) (r := 1) (as := [.int (xs (n + 1))]) (rest := []) dL_law_1448 (by decide +kernel) rfl rfl (by decide) (Nat.zero_le _) (by decide +kernel) ?_
  refine (cmd_count hR).mono (fun v N hN x hx => ?_)
  subst hx
  refine L_m dL_law_1451 ?_
  refine L_arg (n := n) (k := 1) dL_law_1452 dL_law_1453 dL_law_1454 dL_law_1455 dL_law_1456 (by decide) hi (by omega) hL ?_
  refine L_call (j := 228) (n := 2) (ci := 6) (pl := 59) (r := 1) (as := [.int (xs (n + 1))]) (rest := [.int x]) dL_law_1457 (by decide +kernel) rfl rfl (by decide) (show 1 ≤ 4 by decide) (by decide +kernel) ?_
  refine hN.mono (fun w K hK y hy => ?_)
  obtain ⟨e1, hK⟩ := hK
  subst hy
  cases e1
  exact L_eq dL_law_1460 (by decide) (h K hK)
theorem K_status (hR : RM M) (hi : i = nI n) (hn : n + 6 ≤ L) (hL : L ≤ 3072) (h : ∀ K, RM K → LwP L xs 1488 i [] K) : LwP L xs 1465 i [] M := by
  refine L_x dL_law_1465 ?_
  refine L_arg (n := n) (k := 1) dL_law_1466 dL_law_1467 dL_law_1468 dL_law_1469 dL_law_1470 (by decide) hi (by omega) hL ?_
  refine L_call (j := 102) (n := 2) (ci := 5) (pl := 0) (r := 1) (as := [.int (xs (n + 1))]) (rest := []) dL_law_1471 (by decide +kernel) rfl rfl (by decide) (Nat.zero_le _) (by decide +kernel) ?_
  refine (cmd_status hR).mono (fun v N hN x hx => ?_)
  subst hx
  refine L_m dL_law_1474 ?_
  refine L_arg (n := n) (k := 1) dL_law_1475 dL_law_1476 dL_law_1477 dL_law_1478 dL_law_1479 (by decide) hi (by omega) hL ?_
  refine L_call (j := 229) (n := 2) (ci := 6) (pl := 59) (r := 1) (as := [.int (xs (n + 1))]) (rest := [.int x]) dL_law_1480 (by decide +kernel) rfl rfl (by decide) (show 1 ≤ 4 by decide) (by decide +kernel) ?_
  refine hN.mono (fun w K hK y hy => ?_)
  obtain ⟨e1, hK⟩ := hK
  subst hy
  cases e1
  exact L_eq dL_law_1483 (by decide) (h K hK)
def tgL : List Nat := [236, 269, 292, 325, 358, 401, 424, 447, 470, 493, 516, 539, 572, 605, 628, 651, 674, 697, 720, 753, 776, 799, 812, 835, 848, 881, 904, 937, 970, 993, 1016, 1060, 1083, 1116, 1129, 1142, 1175, 1208, 1251, 1294, 1357, 1380, 1403, 1416, 1429, 1442, 1465]
theorem tg_ok : ∀ t, t < 47 → (#[203, 236, 259, 292, 325, 368, 391, 414, 437, 460, 483, 506, 539, 572, 595, 618, 641, 664, 687, 720, 743, 766, 779, 802, 815, 848, 871, 904, 937, 960, 983, 1027, 1050, 1083, 1096, 1109, 1142, 1175, 1218, 1261, 1324, 1347, 1370, 1383, 1396, 1409, 1432] : Array Int)[t]? = some (((tgL.getD t 0 : Nat) : Int) - 33) := by decide +kernel
theorem K_all (hR : RM M) (hi : i = nI n) (hn : n + 6 ≤ L) (hL : L ≤ 3072) (h : ∀ K, RM K → LwP L xs 1488 i [] K) : ∀ t, t < 47 → LwP L xs (tgL.getD t 0) i [] M
  | 0, _ => K_plank hR hi hn hL h
  | 1, _ => K_keeps hR hi hn hL h
  | 2, _ => K_walker hR hi hn hL h
  | 3, _ => K_of hR hi hn hL h
  | 4, _ => K_change hR hi hn hL h
  | 5, _ => K_night hR hi hn hL h
  | 6, _ => K_cross hR hi hn hL h
  | 7, _ => K_crowd hR hi hn hL h
  | 8, _ => K_now hR hi hn hL h
  | 9, _ => K_would hR hi hn hL h
  | 10, _ => K_becomes hR hi hn hL h
  | 11, _ => K_leaves hR hi hn hL h
  | 12, _ => K_after hR hi hn hL h
  | 13, _ => K_often hR hi hn hL h
  | 14, _ => K_balanceFor hR hi hn hL h
  | 15, _ => K_gaits hR hi hn hL h
  | 16, _ => K_gaitFor hR hi hn hL h
  | 17, _ => K_kindsFor hR hi hn hL h
  | 18, _ => K_order hR hi hn hL h
  | 19, _ => K_orders hR hi hn hL h
  | 20, _ => K_fewest hR hi hn hL h
  | 21, _ => K_most hR hi hn hL h
  | 22, _ => K_lay hR hi hn hL h
  | 23, _ => K_best hR hi hn hL h
  | 24, _ => K_unlike hR hi hn hL h
  | 25, _ => K_taken hR hi hn hL h
  | 26, _ => K_fits hR hi hn hL h
  | 27, _ => K_gait hR hi hn hL h
  | 28, _ => K_who hR hi hn hL h
  | 29, _ => K_strangers hR hi hn hL h
  | 30, _ => K_odds hR hi hn hL h
  | 31, _ => K_seed hR hi hn hL h
  | 32, _ => K_feed hR hi hn hL h
  | 33, _ => K_wipe hR hi hn hL h
  | 34, _ => K_text hR hi hn hL h
  | 35, _ => K_hold hR hi hn hL h
  | 36, _ => K_as hR hi hn hL h
  | 37, _ => K_sheet hR hi hn hL h
  | 38, _ => K_write hR hi hn hL h
  | 39, _ => K_copy hR hi hn hL h
  | 40, _ => K_load hR hi hn hL h
  | 41, _ => K_judge hR hi hn hL h
  | 42, _ => K_image hR hi hn hL h
  | 43, _ => K_undo hR hi hn hL h
  | 44, _ => K_tear hR hi hn hL h
  | 45, _ => K_count hR hi hn hL h
  | 46, _ => K_status hR hi hn hL h
  | t + 47, z => absurd z (by omega)
theorem L_sw {v : Int32} (hd : LwP L xs 1488 i [] M) (hk : ∀ t, t < 47 → LwP L xs (tgL.getD t 0) i [] M) : LwP L xs 33 i [.int (v &&& 63)] M := by
  obtain ⟨t, ht, e⟩ := pk_andE v (m := 63) 6 (by decide)
  rw [e]
  have ht : t < 64 := ht
  have et : (nI t).toInt = t := nI_toInt (by omega)
  intro l D tc σ p e s m below meth c k1 k2 Q H locs ls C hk1 he hP hS hl
  by_cases h : t < 47
  · refine lv_tableIn (off := ((tgL.getD t 0 : Nat) : Int) - 33) (tgt := tgL.getD t 0) C.2.1 C.2.2.1 dL_law_33 ?_ ?_ ?_ ?_ ?_
    · rw [et]
      omega
    · rw [et]
      omega
    · rw [et, Int.sub_zero, Int.toNat_natCast]
      exact tg_ok t h
    · omega
    · exact hk t h l D tc σ p e s m below meth c k1 k2 Q H locs ls C hk1 he hP hS hl
  · refine lv_tableOut (tgt := 1488) C.2.1 C.2.2.1 dL_law_33 ?_ (by decide) ?_
    · rw [et]
      omega
    · exact hd l D tc σ p e s m below meth c k1 k2 Q H locs ls C hk1 he hP hS hl
theorem L_head (hi : i = nI n) (hn : n ≤ L + 6) (hL : L ≤ 3072) (k : n + 6 ≤ L → LwP L xs 33 i [.int (xs n &&& 63)] M) : LwP L xs 18 i [] M := by
  intro l D tc σ p e s m below meth c k1 k2 Q H locs ls C hk1 he hP hS hl
  have hx := C.2.1
  have hb := C.2.2.1
  have hX := C.2.2.2.2.2.2.2.2.1
  have hbl := C.2.2.2.2.2.2.2.2.2.1
  have hAm := C.2.2.2.2.2.2.2.2.2.2.1
  have hbA : ¬ Am σ (σ 95) := fun z => by
    have := hAm _ z
    omega
  refine lv_iload_n hx hb dL_law_18 rfl (lv_at hl 0 rfl) ?_
  refine lv_aload_n hx hb dL_law_19 rfl (lv_at hl 3 rfl) ?_
  refine va_slen hx hb hX hbl hbA hS dL_law_20 ?_
  refine lv_bipush (v := 6) hx hb dL_law_21 (by decide) ?_
  refine lv_isub hx hb dL_law_23 ?_
  refine lv_icmp_gt (tgt := 1494) hx hb dL_law_24 (by decide) (fun _ => he H locs ls (fun q hq => hAm _ (hS.2.2 q hq))) (fun hz => ?_)
  have hn6 : n + 6 ≤ L := by
    rw [Int32.lt_iff_toInt_lt] at hz
    have e1 : (Int32.ofNat L - 6).toInt = (L : Int) - 6 := by
      have e0 : (Int32.ofNat L).toInt = (L : Int) := nI_toInt (by omega)
      rw [Int32.toInt_sub, e0, show (6 : Int32).toInt = 6 from rfl, Int.bmod_eq_of_le (by omega) (by omega)]
    rw [e1, hi, nI_toInt (by omega)] at hz
    omega
  refine lv_aload_n hx hb dL_law_27 rfl (lv_at hl 3 rfl) ?_
  refine lv_iload_n hx hb dL_law_28 rfl (lv_at hl 0 rfl) ?_
  have hin : vp_in i L := by
    intro z
    rw [hi, nI_clamp (by omega)] at z
    rcases z with z | z
    · exact nI_pos (by omega) z
    · omega
  refine va_sld hx hb hX hbl hbA hS hin dL_law_29 ?_
  have ei : i.toNatClampNeg = n := by rw [hi, nI_clamp (by omega)]
  rw [ei]
  refine lv_bipush (v := 63) hx hb dL_law_30 (by decide) ?_
  refine lv_iand hx hb dL_law_32 ?_
  exact k hn6 l D tc σ p e s m below meth c k1 k2 Q H locs ls C hk1 he hP hS hl
theorem L_next (hi : i = nI n) (k : LwP L xs 18 (nI (n + 6)) [] M) : LwP L xs 1488 i [] M := by
  intro l D tc σ p e s m below meth c k1 k2 Q H locs ls C hk1 he hP hS hl
  refine lv_iinc (v := nI (n + 6)) C.2.1 C.2.2.1 dL_law_1488 hl (k := 0) rfl ?_ (by decide) rfl (fun ls' hl' => ?_)
  · rw [hi]
    exact nI_add n 6
  · refine lv_goto (tgt := 18) C.2.1 C.2.2.1 dL_law_1491 (by decide) ?_
    exact k l D tc σ p e s m below meth c k1 k2 Q H locs ls' C hk1 he hP hS hl'
theorem L_loop (hL : L ≤ 3072) : ∀ (f n : Nat) (M : Mem), RM M → L ≤ n + f → n ≤ L + 6 → LwP L xs 18 (nI n) [] M := by
  intro f
  induction f with
  | zero => intro n M hR h1 h2; exact L_head rfl h2 hL (fun z => absurd z (by omega))
  | succ f ih =>
    intro n M hR h1 h2
    refine L_head rfl h2 hL (fun hn => ?_)
    have hk : ∀ K, RM K → LwP L xs 1488 (nI n) [] K := fun K hK => L_next rfl (ih (n + 6) K hK (by omega) (by omega))
    exact L_sw (hk M hR) (K_all hR rfl hn hL hk)
end Law2
