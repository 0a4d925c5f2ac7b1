/-! THE CASES OF THE LAW'S SWITCH -/
def lsI (i : Nat) : List (Option Value) := [some (.ref 181), some (.ref 0), some (.ref 140), some (.ref 176), some (.int (nI i)), none, none, none]
def QE (i dx : Nat) : Nat → List (Option Value) → List Value → Mem → Prop := fun pc ls st K => pc = 1642 ∧ ls = lsI i ∧ st = [] ∧ ∃ n' m' tn', Sim K n' m' (dx + 60) tn'
section
variable {L : Nat} {xs : Nat → Int32} {i n m dx tn : Nat} {M : Mem}
theorem lc_sign (h : Sim M n m dx tn) (hd : dx ≤ 60000) (hi : i + 4 < L) (hL : L < 2 ^ 31) : LR L xs 1 (QE i dx) 236 (lsI i) [] M := by
  obtain ⟨V, hC, hT, hM⟩ := s_sign h (xs (i + 1))
  refine lr_al (i := 1) dL_law_236 rfl rfl ?_
  refine lr_arg (q := 1) dL_law_237 dL_law_238 dL_law_240 rfl dL_law_241 dL_law_242 rfl rfl (by omega) hL ?_
  refine lr_call (ci := 10) mo_X10_sign lk_L_30 hC (by decide) rfl rfl (Nat.le_of_ble_eq_true rfl) kl_0 rfl dL_law_243 (fun v N hv => ?_)
  obtain ⟨a, rfl⟩ := ty_int (Or.inl rfl) (hT v N hv)
  refine lr_al (i := 2) dL_law_246 rfl rfl ?_
  refine lr_arg (q := 1) dL_law_247 dL_law_248 dL_law_250 rfl dL_law_251 dL_law_252 rfl rfl (by omega) hL ?_
  refine lr_call (ci := 11) mo_X11_sign lk_L_34 (hM _ N hv) (by decide) rfl rfl (Nat.le_of_ble_eq_true rfl) kl_140 rfl dL_law_253 (fun v2 K hk => ?_)
  obtain ⟨rfl, hk⟩ := hk
  exact lr_eq dL_law_256 (tgt := 1642) (by decide) (lr_end ⟨rfl, rfl, rfl, hk⟩)
theorem lc_end (h : Sim M n m dx tn) (hd : dx ≤ 60000) (hi : i + 4 < L) (hL : L < 2 ^ 31) : LR L xs 1 (QE i dx) 261 (lsI i) [] M := by
  obtain ⟨V, hC, hT, hM⟩ := s_end h (xs (i + 1))
  refine lr_al (i := 1) dL_law_261 rfl rfl ?_
  refine lr_arg (q := 1) dL_law_262 dL_law_263 dL_law_265 rfl dL_law_266 dL_law_267 rfl rfl (by omega) hL ?_
  refine lr_call (ci := 10) mo_X10_end lk_L_35 hC (by decide) rfl rfl (Nat.le_of_ble_eq_true rfl) kl_0 rfl dL_law_268 (fun v N hv => ?_)
  obtain ⟨a, rfl⟩ := ty_int (Or.inr rfl) (hT v N hv)
  refine lr_al (i := 2) dL_law_271 rfl rfl ?_
  refine lr_arg (q := 1) dL_law_272 dL_law_273 dL_law_275 rfl dL_law_276 dL_law_277 rfl rfl (by omega) hL ?_
  refine lr_call (ci := 11) mo_X11_end lk_L_39 (hM _ N hv) (by decide) rfl rfl (Nat.le_of_ble_eq_true rfl) kl_140 rfl dL_law_278 (fun v2 K hk => ?_)
  obtain ⟨rfl, hk⟩ := hk
  exact lr_eq dL_law_281 (tgt := 1642) (by decide) (lr_end ⟨rfl, rfl, rfl, hk⟩)
theorem lc_town (h : Sim M n m dx tn) (hd : dx ≤ 60000) (hi : i + 4 < L) (hL : L < 2 ^ 31) : LR L xs 1 (QE i dx) 286 (lsI i) [] M := by
  obtain ⟨V, hC, hT, hM⟩ := s_town h
  refine lr_al (i := 1) dL_law_286 rfl rfl ?_
  refine lr_call (ci := 10) mo_X10_town lk_L_40 hC (by decide) rfl rfl (Nat.le_of_ble_eq_true rfl) kl_0 rfl dL_law_287 (fun v N hv => ?_)
  obtain ⟨a, rfl⟩ := ty_int (Or.inl rfl) (hT v N hv)
  refine lr_al (i := 2) dL_law_290 rfl rfl ?_
  refine lr_call (ci := 11) mo_X11_town lk_L_44 (hM _ N hv) (by decide) rfl rfl (Nat.le_of_ble_eq_true rfl) kl_140 rfl dL_law_291 (fun v2 K hk => ?_)
  obtain ⟨rfl, hk⟩ := hk
  exact lr_eq dL_law_294 (tgt := 1642) (by decide) (lr_end ⟨rfl, rfl, rfl, hk⟩)
theorem lc_rule (h : Sim M n m dx tn) (hd : dx ≤ 60000) (hi : i + 4 < L) (hL : L < 2 ^ 31) : LR L xs 1 (QE i dx) 299 (lsI i) [] M := by
  obtain ⟨V, hC, hT, hM⟩ := s_rule h
  refine lr_al (i := 1) dL_law_299 rfl rfl ?_
  refine lr_call (ci := 10) mo_X10_rule lk_L_45 hC (by decide) rfl rfl (Nat.le_of_ble_eq_true rfl) kl_0 rfl dL_law_300 (fun v N hv => ?_)
  obtain ⟨a, rfl⟩ := ty_int (Or.inl rfl) (hT v N hv)
  refine lr_al (i := 2) dL_law_303 rfl rfl ?_
  refine lr_call (ci := 11) mo_X11_rule lk_L_48 (hM _ N hv) (by decide) rfl rfl (Nat.le_of_ble_eq_true rfl) kl_140 rfl dL_law_304 (fun v2 K hk => ?_)
  obtain ⟨rfl, hk⟩ := hk
  exact lr_eq dL_law_307 (tgt := 1642) (by decide) (lr_end ⟨rfl, rfl, rfl, hk⟩)
theorem lc_of (h : Sim M n m dx tn) (hd : dx ≤ 60000) (hi : i + 4 < L) (hL : L < 2 ^ 31) : LR L xs 1 (QE i dx) 312 (lsI i) [] M := by
  refine lr_al (i := 1) dL_law_312 rfl rfl ?_
  refine lr_arg (q := 1) dL_law_313 dL_law_314 dL_law_316 rfl dL_law_317 dL_law_318 rfl rfl (by omega) hL ?_
  refine lr_arg (q := 2) dL_law_319 dL_law_320 dL_law_322 rfl dL_law_323 dL_law_324 rfl rfl (by omega) hL ?_
  refine lr_al (i := 3) dL_law_325 rfl rfl ?_
  rcases q_of h (xs (i + 1)) (xs (i + 2)) with ⟨V, hC, hT, hM⟩ | ⟨hT, hM⟩
  · refine lr_wrap (w_of_ok hC hT) (List.mem_of_getElem? (i := 1286) (by decide +kernel)) (List.mem_of_getElem? (i := 94) (by decide +kernel)) ⟨by decide, by decide, rfl⟩ (by decide) (List.mem_of_getElem? (i := 1285) (by decide +kernel)) (List.mem_of_getElem? (i := 1284) (by decide +kernel)) (by decide) rfl rfl (by decide) dL_law_326 (fun r M2 hp => ?_)
    obtain ⟨rfl, a, N, hv, rfl⟩ := hp
    refine lr_ist (i := 5) dL_law_329 (by decide) rfl ?_
    refine lr_al (i := 2) dL_law_331 rfl rfl ?_
    refine lr_arg (q := 1) dL_law_332 dL_law_333 dL_law_335 rfl dL_law_336 dL_law_337 rfl rfl (by omega) hL ?_
    refine lr_arg (q := 2) dL_law_338 dL_law_339 dL_law_341 rfl dL_law_342 dL_law_343 rfl rfl (by omega) hL ?_
    refine lr_call (ci := 11) mo_X11_of lk_L_54 (hM a N hv) (by decide) rfl rfl (Nat.le_of_ble_eq_true rfl) kl_140 rfl dL_law_344 (fun v2 K hk => ?_)
    obtain ⟨rfl, h21, h176, hk⟩ := hk
    refine lr_ist (i := 6) dL_law_347 (by decide) rfl ?_
    refine lr_al (i := 2) dL_law_349 rfl rfl ?_
    refine lr_call (ci := 11) mo_X11_thrown lk_L_55 c_X11_thrown (by decide) rfl rfl (Nat.le_of_ble_eq_true rfl) kl_140 rfl dL_law_350 (fun v3 K3 hk3 => ?_)
    obtain ⟨rfl, rfl⟩ := hk3
    rw [h21]
    refine lr_il (i := 5) (x := 0) dL_law_353 rfl ?_
    refine lr_eq dL_law_355 (tgt := 360) (by decide) ?_
    refine lr_il (i := 5) (x := 0) dL_law_360 rfl ?_
    refine lr_reach (rx_if_ne dL_law_362 (tgt := 377) (by decide) (fun z => absurd rfl z) (fun _ => Reach.here ?_))
    refine lr_al (i := 3) dL_law_365 rfl rfl ?_
    refine lr_reach (rx_iconst (nI 0) dL_law_366 rfl (rx_laldN (id := 176) (n := 1) (k := 0) rfl (by decide) (by decide) dL_law_367 (rx_iload (i := 6) (x := a) dL_law_368 rfl (rx_i2l dL_law_370 rfl (Reach.here ?_)))))
    rw [h176]
    exact lr_leq dL_law_371 dL_law_372 (tgt := 377) (by decide) (lr_reach (rx_goto dL_law_377 (tgt := 1642) (by decide) (rx_drop 5 (rx_drop 6 (Reach.here (lr_end ⟨rfl, rfl, rfl, hk⟩))))))
  · refine lr_wrap (w_of_no hT) (List.mem_of_getElem? (i := 1286) (by decide +kernel)) (List.mem_of_getElem? (i := 94) (by decide +kernel)) ⟨by decide, by decide, rfl⟩ (by decide) (List.mem_of_getElem? (i := 1285) (by decide +kernel)) (List.mem_of_getElem? (i := 1284) (by decide +kernel)) (by decide) rfl rfl (by decide) dL_law_326 (fun r M2 hp => ?_)
    obtain ⟨rfl, rfl⟩ := hp
    refine lr_ist (i := 5) dL_law_329 (by decide) rfl ?_
    refine lr_al (i := 2) dL_law_331 rfl rfl ?_
    refine lr_arg (q := 1) dL_law_332 dL_law_333 dL_law_335 rfl dL_law_336 dL_law_337 rfl rfl (by omega) hL ?_
    refine lr_arg (q := 2) dL_law_338 dL_law_339 dL_law_341 rfl dL_law_342 dL_law_343 rfl rfl (by omega) hL ?_
    refine lr_call (ci := 11) mo_X11_of lk_L_54 (hM) (by decide) rfl rfl (Nat.le_of_ble_eq_true rfl) kl_140 rfl dL_law_344 (fun v2 K hk => ?_)
    obtain ⟨⟨a, rfl⟩, h21, hk⟩ := hk
    refine lr_ist (i := 6) dL_law_347 (by decide) rfl ?_
    refine lr_al (i := 2) dL_law_349 rfl rfl ?_
    refine lr_call (ci := 11) mo_X11_thrown lk_L_55 c_X11_thrown (by decide) rfl rfl (Nat.le_of_ble_eq_true rfl) kl_140 rfl dL_law_350 (fun v3 K3 hk3 => ?_)
    obtain ⟨rfl, rfl⟩ := hk3
    rw [h21]
    refine lr_il (i := 5) (x := 1) dL_law_353 rfl ?_
    refine lr_eq dL_law_355 (tgt := 360) (by decide) ?_
    refine lr_il (i := 5) (x := 1) dL_law_360 rfl ?_
    exact lr_reach (rx_if_ne dL_law_362 (tgt := 377) (by decide) (fun _ => Reach.here (lr_reach (rx_goto dL_law_377 (tgt := 1642) (by decide) (rx_drop 5 (rx_drop 6 (Reach.here (lr_end ⟨rfl, rfl, rfl, hk⟩))))))) (fun z => absurd z (by decide)))
theorem lc_debt (h : Sim M n m dx tn) (hd : dx ≤ 60000) (hi : i + 4 < L) (hL : L < 2 ^ 31) : LR L xs 1 (QE i dx) 380 (lsI i) [] M := by
  refine lr_al (i := 1) dL_law_380 rfl rfl ?_
  refine lr_arg (q := 1) dL_law_381 dL_law_382 dL_law_384 rfl dL_law_385 dL_law_386 rfl rfl (by omega) hL ?_
  refine lr_arg (q := 2) dL_law_387 dL_law_388 dL_law_390 rfl dL_law_391 dL_law_392 rfl rfl (by omega) hL ?_
  refine lr_al (i := 3) dL_law_393 rfl rfl ?_
  rcases q_debt h (xs (i + 1)) (xs (i + 2)) with ⟨V, hC, hT, hM⟩ | ⟨hT, hM⟩
  · refine lr_wrap (w_debt_ok hC hT) (List.mem_of_getElem? (i := 1365) (by decide +kernel)) (List.mem_of_getElem? (i := 94) (by decide +kernel)) ⟨by decide, by decide, rfl⟩ (by decide) (List.mem_of_getElem? (i := 1364) (by decide +kernel)) (List.mem_of_getElem? (i := 1363) (by decide +kernel)) (by decide) rfl rfl (by decide) dL_law_394 (fun r M2 hp => ?_)
    obtain ⟨rfl, a, N, hv, rfl⟩ := hp
    refine lr_ist (i := 5) dL_law_397 (by decide) rfl ?_
    refine lr_al (i := 2) dL_law_399 rfl rfl ?_
    refine lr_arg (q := 1) dL_law_400 dL_law_401 dL_law_403 rfl dL_law_404 dL_law_405 rfl rfl (by omega) hL ?_
    refine lr_arg (q := 2) dL_law_406 dL_law_407 dL_law_409 rfl dL_law_410 dL_law_411 rfl rfl (by omega) hL ?_
    refine lr_call (ci := 11) mo_X11_debt lk_L_60 (hM a N hv) (by decide) rfl rfl (Nat.le_of_ble_eq_true rfl) kl_140 rfl dL_law_412 (fun v2 K hk => ?_)
    obtain ⟨rfl, h21, h176, hk⟩ := hk
    refine lr_ist (i := 6) dL_law_415 (by decide) rfl ?_
    refine lr_al (i := 2) dL_law_417 rfl rfl ?_
    refine lr_call (ci := 11) mo_X11_thrown lk_L_55 c_X11_thrown (by decide) rfl rfl (Nat.le_of_ble_eq_true rfl) kl_140 rfl dL_law_418 (fun v3 K3 hk3 => ?_)
    obtain ⟨rfl, rfl⟩ := hk3
    rw [h21]
    refine lr_il (i := 5) (x := 0) dL_law_421 rfl ?_
    refine lr_eq dL_law_423 (tgt := 428) (by decide) ?_
    refine lr_il (i := 5) (x := 0) dL_law_428 rfl ?_
    refine lr_reach (rx_if_ne dL_law_430 (tgt := 445) (by decide) (fun z => absurd rfl z) (fun _ => Reach.here ?_))
    refine lr_al (i := 3) dL_law_433 rfl rfl ?_
    refine lr_reach (rx_iconst (nI 0) dL_law_434 rfl (rx_laldN (id := 176) (n := 1) (k := 0) rfl (by decide) (by decide) dL_law_435 (rx_iload (i := 6) (x := a) dL_law_436 rfl (rx_i2l dL_law_438 rfl (Reach.here ?_)))))
    rw [h176]
    exact lr_leq dL_law_439 dL_law_440 (tgt := 445) (by decide) (lr_reach (rx_goto dL_law_445 (tgt := 1642) (by decide) (rx_drop 5 (rx_drop 6 (Reach.here (lr_end ⟨rfl, rfl, rfl, hk⟩))))))
  · refine lr_wrap (w_debt_no hT) (List.mem_of_getElem? (i := 1365) (by decide +kernel)) (List.mem_of_getElem? (i := 94) (by decide +kernel)) ⟨by decide, by decide, rfl⟩ (by decide) (List.mem_of_getElem? (i := 1364) (by decide +kernel)) (List.mem_of_getElem? (i := 1363) (by decide +kernel)) (by decide) rfl rfl (by decide) dL_law_394 (fun r M2 hp => ?_)
    obtain ⟨rfl, rfl⟩ := hp
    refine lr_ist (i := 5) dL_law_397 (by decide) rfl ?_
    refine lr_al (i := 2) dL_law_399 rfl rfl ?_
    refine lr_arg (q := 1) dL_law_400 dL_law_401 dL_law_403 rfl dL_law_404 dL_law_405 rfl rfl (by omega) hL ?_
    refine lr_arg (q := 2) dL_law_406 dL_law_407 dL_law_409 rfl dL_law_410 dL_law_411 rfl rfl (by omega) hL ?_
    refine lr_call (ci := 11) mo_X11_debt lk_L_60 (hM) (by decide) rfl rfl (Nat.le_of_ble_eq_true rfl) kl_140 rfl dL_law_412 (fun v2 K hk => ?_)
    obtain ⟨⟨a, rfl⟩, h21, hk⟩ := hk
    refine lr_ist (i := 6) dL_law_415 (by decide) rfl ?_
    refine lr_al (i := 2) dL_law_417 rfl rfl ?_
    refine lr_call (ci := 11) mo_X11_thrown lk_L_55 c_X11_thrown (by decide) rfl rfl (Nat.le_of_ble_eq_true rfl) kl_140 rfl dL_law_418 (fun v3 K3 hk3 => ?_)
    obtain ⟨rfl, rfl⟩ := hk3
    rw [h21]
    refine lr_il (i := 5) (x := 1) dL_law_421 rfl ?_
    refine lr_eq dL_law_423 (tgt := 428) (by decide) ?_
    refine lr_il (i := 5) (x := 1) dL_law_428 rfl ?_
    exact lr_reach (rx_if_ne dL_law_430 (tgt := 445) (by decide) (fun _ => Reach.here (lr_reach (rx_goto dL_law_445 (tgt := 1642) (by decide) (rx_drop 5 (rx_drop 6 (Reach.here (lr_end ⟨rfl, rfl, rfl, hk⟩))))))) (fun z => absurd z (by decide)))
theorem lc_law (h : Sim M n m dx tn) (hd : dx ≤ 60000) (hi : i + 4 < L) (hL : L < 2 ^ 31) : LR L xs 1 (QE i dx) 448 (lsI i) [] M := by
  obtain ⟨V, hC, hT, hM⟩ := s_law h (xs (i + 1)) (xs (i + 2))
  refine lr_al (i := 1) dL_law_448 rfl rfl ?_
  refine lr_arg (q := 1) dL_law_449 dL_law_450 dL_law_452 rfl dL_law_453 dL_law_454 rfl rfl (by omega) hL ?_
  refine lr_arg (q := 2) dL_law_455 dL_law_456 dL_law_458 rfl dL_law_459 dL_law_460 rfl rfl (by omega) hL ?_
  refine lr_call (ci := 10) mo_X10_law lk_L_61 hC (by decide) rfl rfl (Nat.le_of_ble_eq_true rfl) kl_0 rfl dL_law_461 (fun v N hv => ?_)
  obtain ⟨a, rfl⟩ := ty_int (Or.inl rfl) (hT v N hv)
  refine lr_al (i := 2) dL_law_464 rfl rfl ?_
  refine lr_arg (q := 1) dL_law_465 dL_law_466 dL_law_468 rfl dL_law_469 dL_law_470 rfl rfl (by omega) hL ?_
  refine lr_arg (q := 2) dL_law_471 dL_law_472 dL_law_474 rfl dL_law_475 dL_law_476 rfl rfl (by omega) hL ?_
  refine lr_call (ci := 11) mo_X11_law lk_L_64 (hM _ N hv) (by decide) rfl rfl (Nat.le_of_ble_eq_true rfl) kl_140 rfl dL_law_477 (fun v2 K hk => ?_)
  obtain ⟨rfl, hk⟩ := hk
  exact lr_eq dL_law_480 (tgt := 1642) (by decide) (lr_end ⟨rfl, rfl, rfl, hk⟩)
theorem lc_sheet (h : Sim M n m dx tn) (hd : dx ≤ 60000) (hi : i + 4 < L) (hL : L < 2 ^ 31) : LR L xs 1 (QE i dx) 485 (lsI i) [] M := by
  obtain ⟨V, hC, hT, hM⟩ := s_sheet h (xs (i + 1)) (xs (i + 2)) (xs (i + 3)) (xs (i + 4))
  refine lr_al (i := 1) dL_law_485 rfl rfl ?_
  refine lr_arg (q := 1) dL_law_486 dL_law_487 dL_law_489 rfl dL_law_490 dL_law_491 rfl rfl (by omega) hL ?_
  refine lr_arg (q := 2) dL_law_492 dL_law_493 dL_law_495 rfl dL_law_496 dL_law_497 rfl rfl (by omega) hL ?_
  refine lr_arg (q := 3) dL_law_498 dL_law_499 dL_law_501 rfl dL_law_502 dL_law_503 rfl rfl (by omega) hL ?_
  refine lr_arg (q := 4) dL_law_504 dL_law_505 dL_law_507 rfl dL_law_508 dL_law_509 rfl rfl (by omega) hL ?_
  refine lr_call (ci := 10) mo_X10_sheet lk_L_65 hC (by decide) rfl rfl (Nat.le_of_ble_eq_true rfl) kl_0 rfl dL_law_510 (fun v N hv => ?_)
  obtain ⟨a, rfl⟩ := ty_int (Or.inl rfl) (hT v N hv)
  refine lr_al (i := 2) dL_law_513 rfl rfl ?_
  refine lr_arg (q := 1) dL_law_514 dL_law_515 dL_law_517 rfl dL_law_518 dL_law_519 rfl rfl (by omega) hL ?_
  refine lr_arg (q := 2) dL_law_520 dL_law_521 dL_law_523 rfl dL_law_524 dL_law_525 rfl rfl (by omega) hL ?_
  refine lr_arg (q := 3) dL_law_526 dL_law_527 dL_law_529 rfl dL_law_530 dL_law_531 rfl rfl (by omega) hL ?_
  refine lr_arg (q := 4) dL_law_532 dL_law_533 dL_law_535 rfl dL_law_536 dL_law_537 rfl rfl (by omega) hL ?_
  refine lr_call (ci := 11) mo_X11_sheet lk_L_69 (hM _ N hv) (by decide) rfl rfl (Nat.le_of_ble_eq_true rfl) kl_140 rfl dL_law_538 (fun v2 K hk => ?_)
  obtain ⟨rfl, hk⟩ := hk
  exact lr_eq dL_law_541 (tgt := 1642) (by decide) (lr_end ⟨rfl, rfl, rfl, hk⟩)
theorem lc_noon (h : Sim M n m dx tn) (hd : dx ≤ 60000) (hi : i + 4 < L) (hL : L < 2 ^ 31) : LR L xs 1 (QE i dx) 546 (lsI i) [] M := by
  obtain ⟨V, hC, hT, hM⟩ := s_noon h
  refine lr_al (i := 1) dL_law_546 rfl rfl ?_
  refine lr_call (ci := 10) mo_X10_noon lk_L_70 hC (by decide) rfl rfl (Nat.le_of_ble_eq_true rfl) kl_0 rfl dL_law_547 (fun v N hv => ?_)
  obtain ⟨a, rfl⟩ := ty_int (Or.inl rfl) (hT v N hv)
  refine lr_al (i := 2) dL_law_550 rfl rfl ?_
  refine lr_call (ci := 11) mo_X11_noon lk_L_73 (hM _ N hv) (by decide) rfl rfl (Nat.le_of_ble_eq_true rfl) kl_140 rfl dL_law_551 (fun v2 K hk => ?_)
  obtain ⟨rfl, hk⟩ := hk
  exact lr_eq dL_law_554 (tgt := 1642) (by decide) (lr_end ⟨rfl, rfl, rfl, hk⟩)
theorem lc_hide (h : Sim M n m dx tn) (hd : dx ≤ 60000) (hi : i + 4 < L) (hL : L < 2 ^ 31) : LR L xs 1 (QE i dx) 559 (lsI i) [] M := by
  obtain ⟨V, hC, hT, hM⟩ := s_hide h (xs (i + 1)) (xs (i + 2))
  refine lr_al (i := 1) dL_law_559 rfl rfl ?_
  refine lr_arg (q := 1) dL_law_560 dL_law_561 dL_law_563 rfl dL_law_564 dL_law_565 rfl rfl (by omega) hL ?_
  refine lr_arg (q := 2) dL_law_566 dL_law_567 dL_law_569 rfl dL_law_570 dL_law_571 rfl rfl (by omega) hL ?_
  refine lr_call (ci := 10) mo_X10_hide lk_L_74 hC (by decide) rfl rfl (Nat.le_of_ble_eq_true rfl) kl_0 rfl dL_law_572 (fun v N hv => ?_)
  obtain ⟨a, rfl⟩ := ty_int (Or.inl rfl) (hT v N hv)
  refine lr_al (i := 2) dL_law_575 rfl rfl ?_
  refine lr_arg (q := 1) dL_law_576 dL_law_577 dL_law_579 rfl dL_law_580 dL_law_581 rfl rfl (by omega) hL ?_
  refine lr_arg (q := 2) dL_law_582 dL_law_583 dL_law_585 rfl dL_law_586 dL_law_587 rfl rfl (by omega) hL ?_
  refine lr_call (ci := 11) mo_X11_hide lk_L_77 (hM _ N hv) (by decide) rfl rfl (Nat.le_of_ble_eq_true rfl) kl_140 rfl dL_law_588 (fun v2 K hk => ?_)
  obtain ⟨rfl, hk⟩ := hk
  exact lr_eq dL_law_591 (tgt := 1642) (by decide) (lr_end ⟨rfl, rfl, rfl, hk⟩)
theorem lc_search (h : Sim M n m dx tn) (hd : dx ≤ 60000) (hi : i + 4 < L) (hL : L < 2 ^ 31) : LR L xs 1 (QE i dx) 596 (lsI i) [] M := by
  obtain ⟨V, hC, hT, hM⟩ := s_search h (xs (i + 1)) (xs (i + 2))
  refine lr_al (i := 1) dL_law_596 rfl rfl ?_
  refine lr_arg (q := 1) dL_law_597 dL_law_598 dL_law_600 rfl dL_law_601 dL_law_602 rfl rfl (by omega) hL ?_
  refine lr_arg (q := 2) dL_law_603 dL_law_604 dL_law_606 rfl dL_law_607 dL_law_608 rfl rfl (by omega) hL ?_
  refine lr_call (ci := 10) mo_X10_search lk_L_78 hC (by decide) rfl rfl (Nat.le_of_ble_eq_true rfl) kl_0 rfl dL_law_609 (fun v N hv => ?_)
  obtain ⟨a, rfl⟩ := ty_int (Or.inl rfl) (hT v N hv)
  refine lr_al (i := 2) dL_law_612 rfl rfl ?_
  refine lr_arg (q := 1) dL_law_613 dL_law_614 dL_law_616 rfl dL_law_617 dL_law_618 rfl rfl (by omega) hL ?_
  refine lr_arg (q := 2) dL_law_619 dL_law_620 dL_law_622 rfl dL_law_623 dL_law_624 rfl rfl (by omega) hL ?_
  refine lr_call (ci := 11) mo_X11_search lk_L_81 (hM _ N hv) (by decide) rfl rfl (Nat.le_of_ble_eq_true rfl) kl_140 rfl dL_law_625 (fun v2 K hk => ?_)
  obtain ⟨rfl, hk⟩ := hk
  exact lr_eq dL_law_628 (tgt := 1642) (by decide) (lr_end ⟨rfl, rfl, rfl, hk⟩)
theorem lc_below (h : Sim M n m dx tn) (hd : dx ≤ 60000) (hi : i + 4 < L) (hL : L < 2 ^ 31) : LR L xs 1 (QE i dx) 633 (lsI i) [] M := by
  obtain ⟨V, hC, hT, hM⟩ := s_below h (xs (i + 1))
  refine lr_al (i := 1) dL_law_633 rfl rfl ?_
  refine lr_arg (q := 1) dL_law_634 dL_law_635 dL_law_637 rfl dL_law_638 dL_law_639 rfl rfl (by omega) hL ?_
  refine lr_call (ci := 10) mo_X10_below lk_L_82 hC (by decide) rfl rfl (Nat.le_of_ble_eq_true rfl) kl_0 rfl dL_law_640 (fun v N hv => ?_)
  obtain ⟨a, rfl⟩ := ty_int (Or.inl rfl) (hT v N hv)
  refine lr_al (i := 2) dL_law_643 rfl rfl ?_
  refine lr_arg (q := 1) dL_law_644 dL_law_645 dL_law_647 rfl dL_law_648 dL_law_649 rfl rfl (by omega) hL ?_
  refine lr_call (ci := 11) mo_X11_below lk_L_85 (hM _ N hv) (by decide) rfl rfl (Nat.le_of_ble_eq_true rfl) kl_140 rfl dL_law_650 (fun v2 K hk => ?_)
  obtain ⟨rfl, hk⟩ := hk
  exact lr_eq dL_law_653 (tgt := 1642) (by decide) (lr_end ⟨rfl, rfl, rfl, hk⟩)
theorem lc_may (h : Sim M n m dx tn) (hd : dx ≤ 60000) (hi : i + 4 < L) (hL : L < 2 ^ 31) : LR L xs 1 (QE i dx) 658 (lsI i) [] M := by
  obtain ⟨V, hC, hT, hM⟩ := s_may h (xs (i + 1))
  refine lr_al (i := 1) dL_law_658 rfl rfl ?_
  refine lr_arg (q := 1) dL_law_659 dL_law_660 dL_law_662 rfl dL_law_663 dL_law_664 rfl rfl (by omega) hL ?_
  refine lr_call (ci := 10) mo_X10_may lk_L_86 hC (by decide) rfl rfl (Nat.le_of_ble_eq_true rfl) kl_0 rfl dL_law_665 (fun v N hv => ?_)
  obtain ⟨a, rfl⟩ := ty_int (Or.inl rfl) (hT v N hv)
  refine lr_al (i := 2) dL_law_668 rfl rfl ?_
  refine lr_arg (q := 1) dL_law_669 dL_law_670 dL_law_672 rfl dL_law_673 dL_law_674 rfl rfl (by omega) hL ?_
  refine lr_call (ci := 11) mo_X11_may_ lk_L_89 (hM _ N hv) (by decide) rfl rfl (Nat.le_of_ble_eq_true rfl) kl_140 rfl dL_law_675 (fun v2 K hk => ?_)
  obtain ⟨rfl, hk⟩ := hk
  exact lr_eq dL_law_678 (tgt := 1642) (by decide) (lr_end ⟨rfl, rfl, rfl, hk⟩)
theorem lc_willing (h : Sim M n m dx tn) (hd : dx ≤ 60000) (hi : i + 4 < L) (hL : L < 2 ^ 31) : LR L xs 1 (QE i dx) 683 (lsI i) [] M := by
  obtain ⟨V, hC, hT, hM⟩ := s_willing h (xs (i + 1))
  refine lr_al (i := 1) dL_law_683 rfl rfl ?_
  refine lr_arg (q := 1) dL_law_684 dL_law_685 dL_law_687 rfl dL_law_688 dL_law_689 rfl rfl (by omega) hL ?_
  refine lr_call (ci := 10) mo_X10_willing lk_L_90 hC (by decide) rfl rfl (Nat.le_of_ble_eq_true rfl) kl_0 rfl dL_law_690 (fun v N hv => ?_)
  obtain ⟨a, rfl⟩ := ty_int (Or.inl rfl) (hT v N hv)
  refine lr_al (i := 2) dL_law_693 rfl rfl ?_
  refine lr_arg (q := 1) dL_law_694 dL_law_695 dL_law_697 rfl dL_law_698 dL_law_699 rfl rfl (by omega) hL ?_
  refine lr_call (ci := 11) mo_X11_willing lk_L_93 (hM _ N hv) (by decide) rfl rfl (Nat.le_of_ble_eq_true rfl) kl_140 rfl dL_law_700 (fun v2 K hk => ?_)
  obtain ⟨rfl, hk⟩ := hk
  exact lr_eq dL_law_703 (tgt := 1642) (by decide) (lr_end ⟨rfl, rfl, rfl, hk⟩)
theorem lc_pay (h : Sim M n m dx tn) (hd : dx ≤ 60000) (hi : i + 4 < L) (hL : L < 2 ^ 31) : LR L xs 1 (QE i dx) 708 (lsI i) [] M := by
  obtain ⟨V, hC, hT, hM⟩ := s_pay h (xs (i + 1)) (xs (i + 2))
  refine lr_al (i := 1) dL_law_708 rfl rfl ?_
  refine lr_arg (q := 1) dL_law_709 dL_law_710 dL_law_712 rfl dL_law_713 dL_law_714 rfl rfl (by omega) hL ?_
  refine lr_arg (q := 2) dL_law_715 dL_law_716 dL_law_718 rfl dL_law_719 dL_law_720 rfl rfl (by omega) hL ?_
  refine lr_call (ci := 10) mo_X10_pay lk_L_94 hC (by decide) rfl rfl (Nat.le_of_ble_eq_true rfl) kl_0 rfl dL_law_721 (fun v N hv => ?_)
  obtain ⟨a, rfl⟩ := ty_int (Or.inl rfl) (hT v N hv)
  refine lr_al (i := 2) dL_law_724 rfl rfl ?_
  refine lr_arg (q := 1) dL_law_725 dL_law_726 dL_law_728 rfl dL_law_729 dL_law_730 rfl rfl (by omega) hL ?_
  refine lr_arg (q := 2) dL_law_731 dL_law_732 dL_law_734 rfl dL_law_735 dL_law_736 rfl rfl (by omega) hL ?_
  refine lr_call (ci := 11) mo_X11_pay lk_L_97 (hM _ N hv) (by decide) rfl rfl (Nat.le_of_ble_eq_true rfl) kl_140 rfl dL_law_737 (fun v2 K hk => ?_)
  obtain ⟨rfl, hk⟩ := hk
  exact lr_eq dL_law_740 (tgt := 1642) (by decide) (lr_end ⟨rfl, rfl, rfl, hk⟩)
theorem lc_undo (h : Sim M n m dx tn) (hd : dx ≤ 60000) (hi : i + 4 < L) (hL : L < 2 ^ 31) : LR L xs 1 (QE i dx) 745 (lsI i) [] M := by
  obtain ⟨V, hC, hT, hM⟩ := s_undo h
  refine lr_al (i := 1) dL_law_745 rfl rfl ?_
  refine lr_call (ci := 10) mo_X10_undo lk_L_98 hC (by decide) rfl rfl (Nat.le_of_ble_eq_true rfl) kl_0 rfl dL_law_746 (fun v N hv => ?_)
  obtain ⟨a, rfl⟩ := ty_int (Or.inl rfl) (hT v N hv)
  refine lr_al (i := 2) dL_law_749 rfl rfl ?_
  refine lr_call (ci := 11) mo_X11_undo lk_L_101 (hM _ N hv) (by decide) rfl rfl (Nat.le_of_ble_eq_true rfl) kl_140 rfl dL_law_750 (fun v2 K hk => ?_)
  obtain ⟨rfl, hk⟩ := hk
  exact lr_eq dL_law_753 (tgt := 1642) (by decide) (lr_end ⟨rfl, rfl, rfl, hk⟩)
theorem lc_judge (h : Sim M n m dx tn) (hd : dx ≤ 60000) (hi : i + 4 < L) (hL : L < 2 ^ 31) : LR L xs 1 (QE i dx) 758 (lsI i) [] M := by
  obtain ⟨V, hC, hT, hM⟩ := s_judge h (xs (i + 1)) (xs (i + 2))
  refine lr_al (i := 1) dL_law_758 rfl rfl ?_
  refine lr_arg (q := 1) dL_law_759 dL_law_760 dL_law_762 rfl dL_law_763 dL_law_764 rfl rfl (by omega) hL ?_
  refine lr_arg (q := 2) dL_law_765 dL_law_766 dL_law_768 rfl dL_law_769 dL_law_770 rfl rfl (by omega) hL ?_
  refine lr_call (ci := 10) mo_X10_judge lk_L_102 hC (by decide) rfl rfl (Nat.le_of_ble_eq_true rfl) kl_0 rfl dL_law_771 (fun v N hv => ?_)
  obtain ⟨a, rfl⟩ := ty_int (Or.inl rfl) (hT v N hv)
  refine lr_al (i := 2) dL_law_774 rfl rfl ?_
  refine lr_arg (q := 1) dL_law_775 dL_law_776 dL_law_778 rfl dL_law_779 dL_law_780 rfl rfl (by omega) hL ?_
  refine lr_arg (q := 2) dL_law_781 dL_law_782 dL_law_784 rfl dL_law_785 dL_law_786 rfl rfl (by omega) hL ?_
  refine lr_call (ci := 11) mo_X11_judge lk_L_105 (hM _ N hv) (by decide) rfl rfl (Nat.le_of_ble_eq_true rfl) kl_140 rfl dL_law_787 (fun v2 K hk => ?_)
  obtain ⟨rfl, hk⟩ := hk
  exact lr_eq dL_law_790 (tgt := 1642) (by decide) (lr_end ⟨rfl, rfl, rfl, hk⟩)
theorem lc_favour (h : Sim M n m dx tn) (hd : dx ≤ 60000) (hi : i + 4 < L) (hL : L < 2 ^ 31) : LR L xs 1 (QE i dx) 795 (lsI i) [] M := by
  obtain ⟨V, hC, hT, hM⟩ := s_favour h (xs (i + 1)) (xs (i + 2))
  refine lr_al (i := 1) dL_law_795 rfl rfl ?_
  refine lr_arg (q := 1) dL_law_796 dL_law_797 dL_law_799 rfl dL_law_800 dL_law_801 rfl rfl (by omega) hL ?_
  refine lr_arg (q := 2) dL_law_802 dL_law_803 dL_law_805 rfl dL_law_806 dL_law_807 rfl rfl (by omega) hL ?_
  refine lr_call (ci := 10) mo_X10_favour lk_L_106 hC (by decide) rfl rfl (Nat.le_of_ble_eq_true rfl) kl_0 rfl dL_law_808 (fun v N hv => ?_)
  obtain ⟨a, rfl⟩ := ty_int (Or.inl rfl) (hT v N hv)
  refine lr_al (i := 2) dL_law_811 rfl rfl ?_
  refine lr_arg (q := 1) dL_law_812 dL_law_813 dL_law_815 rfl dL_law_816 dL_law_817 rfl rfl (by omega) hL ?_
  refine lr_arg (q := 2) dL_law_818 dL_law_819 dL_law_821 rfl dL_law_822 dL_law_823 rfl rfl (by omega) hL ?_
  refine lr_call (ci := 11) mo_X11_favour lk_L_109 (hM _ N hv) (by decide) rfl rfl (Nat.le_of_ble_eq_true rfl) kl_140 rfl dL_law_824 (fun v2 K hk => ?_)
  obtain ⟨rfl, hk⟩ := hk
  exact lr_eq dL_law_827 (tgt := 1642) (by decide) (lr_end ⟨rfl, rfl, rfl, hk⟩)
theorem lc_nets (h : Sim M n m dx tn) (hd : dx ≤ 60000) (hi : i + 4 < L) (hL : L < 2 ^ 31) : LR L xs 1 (QE i dx) 832 (lsI i) [] M := by
  obtain ⟨V, hC, hT, hM⟩ := s_nets h
  refine lr_al (i := 1) dL_law_832 rfl rfl ?_
  refine lr_call (ci := 10) mo_X10_nets lk_L_110 hC (by decide) rfl rfl (Nat.le_of_ble_eq_true rfl) kl_0 rfl dL_law_833 (fun v N hv => ?_)
  obtain ⟨a, rfl⟩ := ty_int (Or.inl rfl) (hT v N hv)
  refine lr_al (i := 2) dL_law_836 rfl rfl ?_
  refine lr_call (ci := 11) mo_X11_nets lk_L_113 (hM _ N hv) (by decide) rfl rfl (Nat.le_of_ble_eq_true rfl) kl_140 rfl dL_law_837 (fun v2 K hk => ?_)
  obtain ⟨rfl, hk⟩ := hk
  exact lr_eq dL_law_840 (tgt := 1642) (by decide) (lr_end ⟨rfl, rfl, rfl, hk⟩)
theorem lc_give (h : Sim M n m dx tn) (hd : dx ≤ 60000) (hi : i + 4 < L) (hL : L < 2 ^ 31) : LR L xs 1 (QE i dx) 845 (lsI i) [] M := by
  obtain ⟨V, hC, hT, hM⟩ := s_give h (xs (i + 1)) (xs (i + 2)) (xs (i + 3))
  refine lr_al (i := 1) dL_law_845 rfl rfl ?_
  refine lr_arg (q := 1) dL_law_846 dL_law_847 dL_law_849 rfl dL_law_850 dL_law_851 rfl rfl (by omega) hL ?_
  refine lr_arg (q := 2) dL_law_852 dL_law_853 dL_law_855 rfl dL_law_856 dL_law_857 rfl rfl (by omega) hL ?_
  refine lr_arg (q := 3) dL_law_858 dL_law_859 dL_law_861 rfl dL_law_862 dL_law_863 rfl rfl (by omega) hL ?_
  refine lr_call (ci := 10) mo_X10_give lk_L_114 hC (by decide) rfl rfl (Nat.le_of_ble_eq_true rfl) kl_0 rfl dL_law_864 (fun v N hv => ?_)
  obtain ⟨a, rfl⟩ := ty_int (Or.inr rfl) (hT v N hv)
  refine lr_al (i := 2) dL_law_867 rfl rfl ?_
  refine lr_arg (q := 1) dL_law_868 dL_law_869 dL_law_871 rfl dL_law_872 dL_law_873 rfl rfl (by omega) hL ?_
  refine lr_arg (q := 2) dL_law_874 dL_law_875 dL_law_877 rfl dL_law_878 dL_law_879 rfl rfl (by omega) hL ?_
  refine lr_arg (q := 3) dL_law_880 dL_law_881 dL_law_883 rfl dL_law_884 dL_law_885 rfl rfl (by omega) hL ?_
  refine lr_call (ci := 11) mo_X11_give lk_L_118 (hM _ N hv) (by decide) rfl rfl (Nat.le_of_ble_eq_true rfl) kl_140 rfl dL_law_886 (fun v2 K hk => ?_)
  obtain ⟨rfl, hk⟩ := hk
  exact lr_eq dL_law_889 (tgt := 1642) (by decide) (lr_end ⟨rfl, rfl, rfl, hk⟩)
theorem lc_lend (h : Sim M n m dx tn) (hd : dx ≤ 60000) (hi : i + 4 < L) (hL : L < 2 ^ 31) : LR L xs 1 (QE i dx) 894 (lsI i) [] M := by
  obtain ⟨V, hC, hT, hM⟩ := s_lend h (xs (i + 1)) (xs (i + 2)) (xs (i + 3))
  refine lr_al (i := 1) dL_law_894 rfl rfl ?_
  refine lr_arg (q := 1) dL_law_895 dL_law_896 dL_law_898 rfl dL_law_899 dL_law_900 rfl rfl (by omega) hL ?_
  refine lr_arg (q := 2) dL_law_901 dL_law_902 dL_law_904 rfl dL_law_905 dL_law_906 rfl rfl (by omega) hL ?_
  refine lr_arg (q := 3) dL_law_907 dL_law_908 dL_law_910 rfl dL_law_911 dL_law_912 rfl rfl (by omega) hL ?_
  refine lr_call (ci := 10) mo_X10_lend lk_L_119 hC (by decide) rfl rfl (Nat.le_of_ble_eq_true rfl) kl_0 rfl dL_law_913 (fun v N hv => ?_)
  obtain ⟨a, rfl⟩ := ty_int (Or.inl rfl) (hT v N hv)
  refine lr_al (i := 2) dL_law_916 rfl rfl ?_
  refine lr_arg (q := 1) dL_law_917 dL_law_918 dL_law_920 rfl dL_law_921 dL_law_922 rfl rfl (by omega) hL ?_
  refine lr_arg (q := 2) dL_law_923 dL_law_924 dL_law_926 rfl dL_law_927 dL_law_928 rfl rfl (by omega) hL ?_
  refine lr_arg (q := 3) dL_law_929 dL_law_930 dL_law_932 rfl dL_law_933 dL_law_934 rfl rfl (by omega) hL ?_
  refine lr_call (ci := 11) mo_X11_lend lk_L_122 (hM _ N hv) (by decide) rfl rfl (Nat.le_of_ble_eq_true rfl) kl_140 rfl dL_law_935 (fun v2 K hk => ?_)
  obtain ⟨rfl, hk⟩ := hk
  exact lr_eq dL_law_938 (tgt := 1642) (by decide) (lr_end ⟨rfl, rfl, rfl, hk⟩)
theorem lc_back (h : Sim M n m dx tn) (hd : dx ≤ 60000) (hi : i + 4 < L) (hL : L < 2 ^ 31) : LR L xs 1 (QE i dx) 943 (lsI i) [] M := by
  obtain ⟨V, hC, hT, hM⟩ := s_back h
  refine lr_al (i := 1) dL_law_943 rfl rfl ?_
  refine lr_call (ci := 10) mo_X10_back lk_L_123 hC (by decide) rfl rfl (Nat.le_of_ble_eq_true rfl) kl_0 rfl dL_law_944 (fun v N hv => ?_)
  obtain ⟨a, rfl⟩ := ty_int (Or.inl rfl) (hT v N hv)
  refine lr_al (i := 2) dL_law_947 rfl rfl ?_
  refine lr_call (ci := 11) mo_X11_back lk_L_126 (hM _ N hv) (by decide) rfl rfl (Nat.le_of_ble_eq_true rfl) kl_140 rfl dL_law_948 (fun v2 K hk => ?_)
  obtain ⟨rfl, hk⟩ := hk
  exact lr_eq dL_law_951 (tgt := 1642) (by decide) (lr_end ⟨rfl, rfl, rfl, hk⟩)
theorem lc_gift (h : Sim M n m dx tn) (hd : dx ≤ 60000) (hi : i + 4 < L) (hL : L < 2 ^ 31) : LR L xs 1 (QE i dx) 956 (lsI i) [] M := by
  obtain ⟨V, hC, hT, hM⟩ := s_gift h (xs (i + 1))
  refine lr_al (i := 1) dL_law_956 rfl rfl ?_
  refine lr_arg (q := 1) dL_law_957 dL_law_958 dL_law_960 rfl dL_law_961 dL_law_962 rfl rfl (by omega) hL ?_
  refine lr_call (ci := 10) mo_X10_gift lk_L_127 hC (by decide) rfl rfl (Nat.le_of_ble_eq_true rfl) kl_0 rfl dL_law_963 (fun v N hv => ?_)
  obtain ⟨a, rfl⟩ := ty_int (Or.inl rfl) (hT v N hv)
  refine lr_al (i := 2) dL_law_966 rfl rfl ?_
  refine lr_arg (q := 1) dL_law_967 dL_law_968 dL_law_970 rfl dL_law_971 dL_law_972 rfl rfl (by omega) hL ?_
  refine lr_call (ci := 11) mo_X11_gift lk_L_130 (hM _ N hv) (by decide) rfl rfl (Nat.le_of_ble_eq_true rfl) kl_140 rfl dL_law_973 (fun v2 K hk => ?_)
  obtain ⟨rfl, hk⟩ := hk
  exact lr_eq dL_law_976 (tgt := 1642) (by decide) (lr_end ⟨rfl, rfl, rfl, hk⟩)
theorem lc_poorer (h : Sim M n m dx tn) (hd : dx ≤ 60000) (hi : i + 4 < L) (hL : L < 2 ^ 31) : LR L xs 1 (QE i dx) 981 (lsI i) [] M := by
  obtain ⟨V, hC, hT, hM⟩ := s_poorer h (xs (i + 1)) (xs (i + 2))
  refine lr_al (i := 1) dL_law_981 rfl rfl ?_
  refine lr_arg (q := 1) dL_law_982 dL_law_983 dL_law_985 rfl dL_law_986 dL_law_987 rfl rfl (by omega) hL ?_
  refine lr_arg (q := 2) dL_law_988 dL_law_989 dL_law_991 rfl dL_law_992 dL_law_993 rfl rfl (by omega) hL ?_
  refine lr_call (ci := 10) mo_X10_poorer lk_L_131 hC (by decide) rfl rfl (Nat.le_of_ble_eq_true rfl) kl_0 rfl dL_law_994 (fun v N hv => ?_)
  obtain ⟨a, rfl⟩ := ty_int (Or.inl rfl) (hT v N hv)
  refine lr_al (i := 2) dL_law_997 rfl rfl ?_
  refine lr_arg (q := 1) dL_law_998 dL_law_999 dL_law_1001 rfl dL_law_1002 dL_law_1003 rfl rfl (by omega) hL ?_
  refine lr_arg (q := 2) dL_law_1004 dL_law_1005 dL_law_1007 rfl dL_law_1008 dL_law_1009 rfl rfl (by omega) hL ?_
  refine lr_call (ci := 11) mo_X11_poorer lk_L_134 (hM _ N hv) (by decide) rfl rfl (Nat.le_of_ble_eq_true rfl) kl_140 rfl dL_law_1010 (fun v2 K hk => ?_)
  obtain ⟨rfl, hk⟩ := hk
  exact lr_eq dL_law_1013 (tgt := 1642) (by decide) (lr_end ⟨rfl, rfl, rfl, hk⟩)
theorem lc_most (h : Sim M n m dx tn) (hd : dx ≤ 60000) (hi : i + 4 < L) (hL : L < 2 ^ 31) : LR L xs 1 (QE i dx) 1018 (lsI i) [] M := by
  obtain ⟨V, hC, hT, hM⟩ := s_most h (xs (i + 1))
  refine lr_al (i := 1) dL_law_1018 rfl rfl ?_
  refine lr_arg (q := 1) dL_law_1019 dL_law_1020 dL_law_1022 rfl dL_law_1023 dL_law_1024 rfl rfl (by omega) hL ?_
  refine lr_call (ci := 10) mo_X10_most lk_L_135 hC (by decide) rfl rfl (Nat.le_of_ble_eq_true rfl) kl_0 rfl dL_law_1025 (fun v N hv => ?_)
  obtain ⟨a, rfl⟩ := ty_int (Or.inl rfl) (hT v N hv)
  refine lr_al (i := 2) dL_law_1028 rfl rfl ?_
  refine lr_arg (q := 1) dL_law_1029 dL_law_1030 dL_law_1032 rfl dL_law_1033 dL_law_1034 rfl rfl (by omega) hL ?_
  refine lr_call (ci := 11) mo_X11_most lk_L_138 (hM _ N hv) (by decide) rfl rfl (Nat.le_of_ble_eq_true rfl) kl_140 rfl dL_law_1035 (fun v2 K hk => ?_)
  obtain ⟨rfl, hk⟩ := hk
  exact lr_eq dL_law_1038 (tgt := 1642) (by decide) (lr_end ⟨rfl, rfl, rfl, hk⟩)
theorem lc_all (h : Sim M n m dx tn) (hd : dx ≤ 60000) (hi : i + 4 < L) (hL : L < 2 ^ 31) : LR L xs 1 (QE i dx) 1043 (lsI i) [] M := by
  obtain ⟨V, hC, hT, hM⟩ := s_all h (xs (i + 1))
  refine lr_al (i := 1) dL_law_1043 rfl rfl ?_
  refine lr_arg (q := 1) dL_law_1044 dL_law_1045 dL_law_1047 rfl dL_law_1048 dL_law_1049 rfl rfl (by omega) hL ?_
  refine lr_call (ci := 10) mo_X10_all lk_L_139 hC (by decide) rfl rfl (Nat.le_of_ble_eq_true rfl) kl_0 rfl dL_law_1050 (fun v N hv => ?_)
  obtain ⟨a, rfl⟩ := ty_int (Or.inl rfl) (hT v N hv)
  refine lr_al (i := 2) dL_law_1053 rfl rfl ?_
  refine lr_arg (q := 1) dL_law_1054 dL_law_1055 dL_law_1057 rfl dL_law_1058 dL_law_1059 rfl rfl (by omega) hL ?_
  refine lr_call (ci := 11) mo_X11_all lk_L_142 (hM _ N hv) (by decide) rfl rfl (Nat.le_of_ble_eq_true rfl) kl_140 rfl dL_law_1060 (fun v2 K hk => ?_)
  obtain ⟨rfl, hk⟩ := hk
  exact lr_eq dL_law_1063 (tgt := 1642) (by decide) (lr_end ⟨rfl, rfl, rfl, hk⟩)
theorem lc_never (h : Sim M n m dx tn) (hd : dx ≤ 60000) (hi : i + 4 < L) (hL : L < 2 ^ 31) : LR L xs 1 (QE i dx) 1068 (lsI i) [] M := by
  obtain ⟨V, hC, hT, hM⟩ := s_never h (xs (i + 1))
  refine lr_al (i := 1) dL_law_1068 rfl rfl ?_
  refine lr_arg (q := 1) dL_law_1069 dL_law_1070 dL_law_1072 rfl dL_law_1073 dL_law_1074 rfl rfl (by omega) hL ?_
  refine lr_call (ci := 10) mo_X10_never lk_L_143 hC (by decide) rfl rfl (Nat.le_of_ble_eq_true rfl) kl_0 rfl dL_law_1075 (fun v N hv => ?_)
  obtain ⟨a, rfl⟩ := ty_int (Or.inl rfl) (hT v N hv)
  refine lr_al (i := 2) dL_law_1078 rfl rfl ?_
  refine lr_arg (q := 1) dL_law_1079 dL_law_1080 dL_law_1082 rfl dL_law_1083 dL_law_1084 rfl rfl (by omega) hL ?_
  refine lr_call (ci := 11) mo_X11_never lk_L_146 (hM _ N hv) (by decide) rfl rfl (Nat.le_of_ble_eq_true rfl) kl_140 rfl dL_law_1085 (fun v2 K hk => ?_)
  obtain ⟨rfl, hk⟩ := hk
  exact lr_eq dL_law_1088 (tgt := 1642) (by decide) (lr_end ⟨rfl, rfl, rfl, hk⟩)
theorem lc_ways (h : Sim M n m dx tn) (hd : dx ≤ 60000) (hi : i + 4 < L) (hL : L < 2 ^ 31) : LR L xs 1 (QE i dx) 1093 (lsI i) [] M := by
  obtain ⟨V, hC, hT, hM⟩ := s_ways h (xs (i + 1))
  refine lr_al (i := 1) dL_law_1093 rfl rfl ?_
  refine lr_arg (q := 1) dL_law_1094 dL_law_1095 dL_law_1097 rfl dL_law_1098 dL_law_1099 rfl rfl (by omega) hL ?_
  refine lr_call (ci := 10) mo_X10_ways lk_L_147 hC (by decide) rfl rfl (Nat.le_of_ble_eq_true rfl) kl_0 rfl dL_law_1100 (fun v N hv => ?_)
  obtain ⟨a, rfl⟩ := ty_long (hT v N hv)
  refine lr_al (i := 2) dL_law_1103 rfl rfl ?_
  refine lr_arg (q := 1) dL_law_1104 dL_law_1105 dL_law_1107 rfl dL_law_1108 dL_law_1109 rfl rfl (by omega) hL ?_
  refine lr_call (ci := 11) mo_X11_ways lk_L_150 (hM _ N hv) (by decide) rfl rfl (Nat.le_of_ble_eq_true rfl) kl_140 rfl dL_law_1110 (fun v2 K hk => ?_)
  obtain ⟨rfl, hk⟩ := hk
  exact lr_leq dL_law_1113 dL_law_1114 (tgt := 1642) (by decide) (lr_end ⟨rfl, rfl, rfl, hk⟩)
theorem lc_ahead (h : Sim M n m dx tn) (hd : dx ≤ 60000) (hi : i + 4 < L) (hL : L < 2 ^ 31) : LR L xs 1 (QE i dx) 1119 (lsI i) [] M := by
  obtain ⟨V, hC, hT, hM⟩ := s_ahead h (xs (i + 1)) (xs (i + 2))
  refine lr_al (i := 1) dL_law_1119 rfl rfl ?_
  refine lr_arg (q := 1) dL_law_1120 dL_law_1121 dL_law_1123 rfl dL_law_1124 dL_law_1125 rfl rfl (by omega) hL ?_
  refine lr_arg (q := 2) dL_law_1126 dL_law_1127 dL_law_1129 rfl dL_law_1130 dL_law_1131 rfl rfl (by omega) hL ?_
  refine lr_call (ci := 10) mo_X10_ahead lk_L_151 hC (by decide) rfl rfl (Nat.le_of_ble_eq_true rfl) kl_0 rfl dL_law_1132 (fun v N hv => ?_)
  obtain ⟨a, rfl⟩ := ty_int (Or.inl rfl) (hT v N hv)
  refine lr_al (i := 2) dL_law_1135 rfl rfl ?_
  refine lr_arg (q := 1) dL_law_1136 dL_law_1137 dL_law_1139 rfl dL_law_1140 dL_law_1141 rfl rfl (by omega) hL ?_
  refine lr_arg (q := 2) dL_law_1142 dL_law_1143 dL_law_1145 rfl dL_law_1146 dL_law_1147 rfl rfl (by omega) hL ?_
  refine lr_call (ci := 11) mo_X11_ahead lk_L_154 (hM _ N hv) (by decide) rfl rfl (Nat.le_of_ble_eq_true rfl) kl_140 rfl dL_law_1148 (fun v2 K hk => ?_)
  obtain ⟨rfl, hk⟩ := hk
  exact lr_eq dL_law_1151 (tgt := 1642) (by decide) (lr_end ⟨rfl, rfl, rfl, hk⟩)
theorem lc_fewest (h : Sim M n m dx tn) (hd : dx ≤ 60000) (hi : i + 4 < L) (hL : L < 2 ^ 31) : LR L xs 1 (QE i dx) 1156 (lsI i) [] M := by
  obtain ⟨V, hC, hT, hM⟩ := s_fewest h (xs (i + 1))
  refine lr_al (i := 1) dL_law_1156 rfl rfl ?_
  refine lr_arg (q := 1) dL_law_1157 dL_law_1158 dL_law_1160 rfl dL_law_1161 dL_law_1162 rfl rfl (by omega) hL ?_
  refine lr_call (ci := 10) mo_X10_fewest lk_L_155 hC (by decide) rfl rfl (Nat.le_of_ble_eq_true rfl) kl_0 rfl dL_law_1163 (fun v N hv => ?_)
  obtain ⟨a, rfl⟩ := ty_int (Or.inl rfl) (hT v N hv)
  refine lr_al (i := 2) dL_law_1166 rfl rfl ?_
  refine lr_arg (q := 1) dL_law_1167 dL_law_1168 dL_law_1170 rfl dL_law_1171 dL_law_1172 rfl rfl (by omega) hL ?_
  refine lr_call (ci := 11) mo_X11_fewest lk_L_158 (hM _ N hv) (by decide) rfl rfl (Nat.le_of_ble_eq_true rfl) kl_140 rfl dL_law_1173 (fun v2 K hk => ?_)
  obtain ⟨rfl, hk⟩ := hk
  exact lr_eq dL_law_1176 (tgt := 1642) (by decide) (lr_end ⟨rfl, rfl, rfl, hk⟩)
theorem lc_sorts (h : Sim M n m dx tn) (hd : dx ≤ 60000) (hi : i + 4 < L) (hL : L < 2 ^ 31) : LR L xs 1 (QE i dx) 1181 (lsI i) [] M := by
  obtain ⟨V, hC, hT, hM⟩ := s_sorts h (xs (i + 1))
  refine lr_al (i := 1) dL_law_1181 rfl rfl ?_
  refine lr_arg (q := 1) dL_law_1182 dL_law_1183 dL_law_1185 rfl dL_law_1186 dL_law_1187 rfl rfl (by omega) hL ?_
  refine lr_call (ci := 10) mo_X10_sorts lk_L_159 hC (by decide) rfl rfl (Nat.le_of_ble_eq_true rfl) kl_0 rfl dL_law_1188 (fun v N hv => ?_)
  obtain ⟨a, rfl⟩ := ty_int (Or.inl rfl) (hT v N hv)
  refine lr_al (i := 2) dL_law_1191 rfl rfl ?_
  refine lr_arg (q := 1) dL_law_1192 dL_law_1193 dL_law_1195 rfl dL_law_1196 dL_law_1197 rfl rfl (by omega) hL ?_
  refine lr_call (ci := 11) mo_X11_sorts lk_L_162 (hM _ N hv) (by decide) rfl rfl (Nat.le_of_ble_eq_true rfl) kl_140 rfl dL_law_1198 (fun v2 K hk => ?_)
  obtain ⟨rfl, hk⟩ := hk
  exact lr_eq dL_law_1201 (tgt := 1642) (by decide) (lr_end ⟨rfl, rfl, rfl, hk⟩)
theorem lc_flow (h : Sim M n m dx tn) (hd : dx ≤ 60000) (hi : i + 4 < L) (hL : L < 2 ^ 31) : LR L xs 1 (QE i dx) 1206 (lsI i) [] M := by
  obtain ⟨V, hC, hT, hM⟩ := s_flow h (xs (i + 1))
  refine lr_al (i := 1) dL_law_1206 rfl rfl ?_
  refine lr_arg (q := 1) dL_law_1207 dL_law_1208 dL_law_1210 rfl dL_law_1211 dL_law_1212 rfl rfl (by omega) hL ?_
  refine lr_call (ci := 10) mo_X10_flow lk_L_163 hC (by decide) rfl rfl (Nat.le_of_ble_eq_true rfl) kl_0 rfl dL_law_1213 (fun v N hv => ?_)
  obtain ⟨a, rfl⟩ := ty_int (Or.inl rfl) (hT v N hv)
  refine lr_al (i := 2) dL_law_1216 rfl rfl ?_
  refine lr_arg (q := 1) dL_law_1217 dL_law_1218 dL_law_1220 rfl dL_law_1221 dL_law_1222 rfl rfl (by omega) hL ?_
  refine lr_call (ci := 11) mo_X11_flow lk_L_166 (hM _ N hv) (by decide) rfl rfl (Nat.le_of_ble_eq_true rfl) kl_140 rfl dL_law_1223 (fun v2 K hk => ?_)
  obtain ⟨rfl, hk⟩ := hk
  exact lr_eq dL_law_1226 (tgt := 1642) (by decide) (lr_end ⟨rfl, rfl, rfl, hk⟩)
theorem lc_proof (h : Sim M n m dx tn) (hd : dx ≤ 60000) (hi : i + 4 < L) (hL : L < 2 ^ 31) : LR L xs 1 (QE i dx) 1231 (lsI i) [] M := by
  obtain ⟨V, hC, hT, hM⟩ := s_proof h (xs (i + 1))
  refine lr_al (i := 1) dL_law_1231 rfl rfl ?_
  refine lr_arg (q := 1) dL_law_1232 dL_law_1233 dL_law_1235 rfl dL_law_1236 dL_law_1237 rfl rfl (by omega) hL ?_
  refine lr_call (ci := 10) mo_X10_proof lk_L_167 hC (by decide) rfl rfl (Nat.le_of_ble_eq_true rfl) kl_0 rfl dL_law_1238 (fun v N hv => ?_)
  obtain ⟨a, rfl⟩ := ty_int (Or.inl rfl) (hT v N hv)
  refine lr_al (i := 2) dL_law_1241 rfl rfl ?_
  refine lr_arg (q := 1) dL_law_1242 dL_law_1243 dL_law_1245 rfl dL_law_1246 dL_law_1247 rfl rfl (by omega) hL ?_
  refine lr_call (ci := 11) mo_X11_proof lk_L_170 (hM _ N hv) (by decide) rfl rfl (Nat.le_of_ble_eq_true rfl) kl_140 rfl dL_law_1248 (fun v2 K hk => ?_)
  obtain ⟨rfl, hk⟩ := hk
  exact lr_eq dL_law_1251 (tgt := 1642) (by decide) (lr_end ⟨rfl, rfl, rfl, hk⟩)
theorem lc_gap (h : Sim M n m dx tn) (hd : dx ≤ 60000) (hi : i + 4 < L) (hL : L < 2 ^ 31) : LR L xs 1 (QE i dx) 1256 (lsI i) [] M := by
  obtain ⟨V, hC, hT, hM⟩ := s_gap h (xs (i + 1)) (xs (i + 2))
  refine lr_al (i := 1) dL_law_1256 rfl rfl ?_
  refine lr_arg (q := 1) dL_law_1257 dL_law_1258 dL_law_1260 rfl dL_law_1261 dL_law_1262 rfl rfl (by omega) hL ?_
  refine lr_arg (q := 2) dL_law_1263 dL_law_1264 dL_law_1266 rfl dL_law_1267 dL_law_1268 rfl rfl (by omega) hL ?_
  refine lr_call (ci := 10) mo_X10_gap lk_L_171 hC (by decide) rfl rfl (Nat.le_of_ble_eq_true rfl) kl_0 rfl dL_law_1269 (fun v N hv => ?_)
  obtain ⟨a, rfl⟩ := ty_int (Or.inl rfl) (hT v N hv)
  refine lr_al (i := 2) dL_law_1272 rfl rfl ?_
  refine lr_arg (q := 1) dL_law_1273 dL_law_1274 dL_law_1276 rfl dL_law_1277 dL_law_1278 rfl rfl (by omega) hL ?_
  refine lr_arg (q := 2) dL_law_1279 dL_law_1280 dL_law_1282 rfl dL_law_1283 dL_law_1284 rfl rfl (by omega) hL ?_
  refine lr_call (ci := 11) mo_X11_gap lk_L_174 (hM _ N hv) (by decide) rfl rfl (Nat.le_of_ble_eq_true rfl) kl_140 rfl dL_law_1285 (fun v2 K hk => ?_)
  obtain ⟨rfl, hk⟩ := hk
  exact lr_eq dL_law_1288 (tgt := 1642) (by decide) (lr_end ⟨rfl, rfl, rfl, hk⟩)
theorem lc_lowest (h : Sim M n m dx tn) (hd : dx ≤ 60000) (hi : i + 4 < L) (hL : L < 2 ^ 31) : LR L xs 1 (QE i dx) 1293 (lsI i) [] M := by
  obtain ⟨V, hC, hT, hM⟩ := s_lowest h
  refine lr_al (i := 1) dL_law_1293 rfl rfl ?_
  refine lr_call (ci := 10) mo_X10_lowest lk_L_175 hC (by decide) rfl rfl (Nat.le_of_ble_eq_true rfl) kl_0 rfl dL_law_1294 (fun v N hv => ?_)
  obtain ⟨a, rfl⟩ := ty_int (Or.inl rfl) (hT v N hv)
  refine lr_al (i := 2) dL_law_1297 rfl rfl ?_
  refine lr_call (ci := 11) mo_X11_lowest lk_L_178 (hM _ N hv) (by decide) rfl rfl (Nat.le_of_ble_eq_true rfl) kl_140 rfl dL_law_1298 (fun v2 K hk => ?_)
  obtain ⟨rfl, hk⟩ := hk
  exact lr_eq dL_law_1301 (tgt := 1642) (by decide) (lr_end ⟨rfl, rfl, rfl, hk⟩)
theorem lc_lapse (h : Sim M n m dx tn) (hd : dx ≤ 60000) (hi : i + 4 < L) (hL : L < 2 ^ 31) : LR L xs 1 (QE i dx) 1306 (lsI i) [] M := by
  obtain ⟨V, hC, hT, hM⟩ := s_lapse h hd (xs (i + 1))
  refine lr_al (i := 1) dL_law_1306 rfl rfl ?_
  refine lr_arg (q := 1) dL_law_1307 dL_law_1308 dL_law_1310 rfl dL_law_1311 dL_law_1312 rfl rfl (by omega) hL ?_
  refine lr_call (ci := 10) mo_X10_lapse lk_L_179 hC (by decide) rfl rfl (Nat.le_of_ble_eq_true rfl) kl_0 rfl dL_law_1313 (fun v N hv => ?_)
  obtain ⟨a, rfl⟩ := ty_int (Or.inl rfl) (hT v N hv)
  refine lr_al (i := 2) dL_law_1316 rfl rfl ?_
  refine lr_arg (q := 1) dL_law_1317 dL_law_1318 dL_law_1320 rfl dL_law_1321 dL_law_1322 rfl rfl (by omega) hL ?_
  refine lr_call (ci := 11) mo_X11_lapse lk_L_182 (hM _ N hv) (by decide) rfl rfl (Nat.le_of_ble_eq_true rfl) kl_140 rfl dL_law_1323 (fun v2 K hk => ?_)
  obtain ⟨rfl, hk⟩ := hk
  exact lr_eq dL_law_1326 (tgt := 1642) (by decide) (lr_end ⟨rfl, rfl, rfl, hk⟩)
theorem lc_days (h : Sim M n m dx tn) (hd : dx ≤ 60000) (hi : i + 4 < L) (hL : L < 2 ^ 31) : LR L xs 1 (QE i dx) 1331 (lsI i) [] M := by
  obtain ⟨V, hC, hT, hM⟩ := s_days h hd (xs (i + 1))
  refine lr_al (i := 1) dL_law_1331 rfl rfl ?_
  refine lr_arg (q := 1) dL_law_1332 dL_law_1333 dL_law_1335 rfl dL_law_1336 dL_law_1337 rfl rfl (by omega) hL ?_
  refine lr_call (ci := 10) mo_X10_days lk_L_183 hC (by decide) rfl rfl (Nat.le_of_ble_eq_true rfl) kl_0 rfl dL_law_1338 (fun v N hv => ?_)
  obtain ⟨a, rfl⟩ := ty_int (Or.inl rfl) (hT v N hv)
  refine lr_al (i := 2) dL_law_1341 rfl rfl ?_
  refine lr_arg (q := 1) dL_law_1342 dL_law_1343 dL_law_1345 rfl dL_law_1346 dL_law_1347 rfl rfl (by omega) hL ?_
  refine lr_call (ci := 11) mo_X11_days lk_L_186 (hM _ N hv) (by decide) rfl rfl (Nat.le_of_ble_eq_true rfl) kl_140 rfl dL_law_1348 (fun v2 K hk => ?_)
  obtain ⟨rfl, hk⟩ := hk
  exact lr_eq dL_law_1351 (tgt := 1642) (by decide) (lr_end ⟨rfl, rfl, rfl, hk⟩)
theorem lc_best (h : Sim M n m dx tn) (hd : dx ≤ 60000) (hi : i + 4 < L) (hL : L < 2 ^ 31) : LR L xs 1 (QE i dx) 1356 (lsI i) [] M := by
  obtain ⟨V, hC, hT, hM⟩ := s_best h hd (xs (i + 1))
  refine lr_al (i := 1) dL_law_1356 rfl rfl ?_
  refine lr_arg (q := 1) dL_law_1357 dL_law_1358 dL_law_1360 rfl dL_law_1361 dL_law_1362 rfl rfl (by omega) hL ?_
  refine lr_call (ci := 10) mo_X10_best lk_L_187 hC (by decide) rfl rfl (Nat.le_of_ble_eq_true rfl) kl_0 rfl dL_law_1363 (fun v N hv => ?_)
  obtain ⟨a, rfl⟩ := ty_int (Or.inl rfl) (hT v N hv)
  refine lr_al (i := 2) dL_law_1366 rfl rfl ?_
  refine lr_arg (q := 1) dL_law_1367 dL_law_1368 dL_law_1370 rfl dL_law_1371 dL_law_1372 rfl rfl (by omega) hL ?_
  refine lr_call (ci := 11) mo_X11_best lk_L_190 (hM _ N hv) (by decide) rfl rfl (Nat.le_of_ble_eq_true rfl) kl_140 rfl dL_law_1373 (fun v2 K hk => ?_)
  obtain ⟨rfl, hk⟩ := hk
  exact lr_eq dL_law_1376 (tgt := 1642) (by decide) (lr_end ⟨rfl, rfl, rfl, hk⟩)
theorem lc_pays (h : Sim M n m dx tn) (hd : dx ≤ 60000) (hi : i + 4 < L) (hL : L < 2 ^ 31) : LR L xs 1 (QE i dx) 1381 (lsI i) [] M := by
  refine lr_al (i := 1) dL_law_1381 rfl rfl ?_
  refine lr_arg (q := 1) dL_law_1382 dL_law_1383 dL_law_1385 rfl dL_law_1386 dL_law_1387 rfl rfl (by omega) hL ?_
  refine lr_arg (q := 2) dL_law_1388 dL_law_1389 dL_law_1391 rfl dL_law_1392 dL_law_1393 rfl rfl (by omega) hL ?_
  refine lr_arg (q := 3) dL_law_1394 dL_law_1395 dL_law_1397 rfl dL_law_1398 dL_law_1399 rfl rfl (by omega) hL ?_
  refine lr_al (i := 3) dL_law_1400 rfl rfl ?_
  rcases q_pays h hd (xs (i + 1)) (xs (i + 2)) (xs (i + 3)) with ⟨V, hC, hT, hM⟩ | ⟨hT, hM⟩
  · refine lr_wrap (w_pays_ok hC hT) (List.mem_of_getElem? (i := 1372) (by decide +kernel)) (List.mem_of_getElem? (i := 94) (by decide +kernel)) ⟨by decide, by decide, rfl⟩ (by decide) (List.mem_of_getElem? (i := 1371) (by decide +kernel)) (List.mem_of_getElem? (i := 1370) (by decide +kernel)) (by decide) rfl rfl (by decide) dL_law_1401 (fun r M2 hp => ?_)
    obtain ⟨rfl, a, N, hv, rfl⟩ := hp
    refine lr_ist (i := 5) dL_law_1404 (by decide) rfl ?_
    refine lr_al (i := 2) dL_law_1406 rfl rfl ?_
    refine lr_arg (q := 1) dL_law_1407 dL_law_1408 dL_law_1410 rfl dL_law_1411 dL_law_1412 rfl rfl (by omega) hL ?_
    refine lr_arg (q := 2) dL_law_1413 dL_law_1414 dL_law_1416 rfl dL_law_1417 dL_law_1418 rfl rfl (by omega) hL ?_
    refine lr_arg (q := 3) dL_law_1419 dL_law_1420 dL_law_1422 rfl dL_law_1423 dL_law_1424 rfl rfl (by omega) hL ?_
    refine lr_call (ci := 11) mo_X11_pays lk_L_194 (hM a N hv) (by decide) rfl rfl (Nat.le_of_ble_eq_true rfl) kl_140 rfl dL_law_1425 (fun v2 K hk => ?_)
    obtain ⟨rfl, h21, h176, hk⟩ := hk
    refine lr_ist (i := 6) dL_law_1428 (by decide) rfl ?_
    refine lr_al (i := 2) dL_law_1430 rfl rfl ?_
    refine lr_call (ci := 11) mo_X11_thrown lk_L_55 c_X11_thrown (by decide) rfl rfl (Nat.le_of_ble_eq_true rfl) kl_140 rfl dL_law_1431 (fun v3 K3 hk3 => ?_)
    obtain ⟨rfl, rfl⟩ := hk3
    rw [h21]
    refine lr_il (i := 5) (x := 0) dL_law_1434 rfl ?_
    refine lr_eq dL_law_1436 (tgt := 1441) (by decide) ?_
    refine lr_il (i := 5) (x := 0) dL_law_1441 rfl ?_
    refine lr_reach (rx_if_ne dL_law_1443 (tgt := 1458) (by decide) (fun z => absurd rfl z) (fun _ => Reach.here ?_))
    refine lr_al (i := 3) dL_law_1446 rfl rfl ?_
    refine lr_reach (rx_iconst (nI 0) dL_law_1447 rfl (rx_laldN (id := 176) (n := 1) (k := 0) rfl (by decide) (by decide) dL_law_1448 (rx_iload (i := 6) (x := a) dL_law_1449 rfl (rx_i2l dL_law_1451 rfl (Reach.here ?_)))))
    rw [h176]
    exact lr_leq dL_law_1452 dL_law_1453 (tgt := 1458) (by decide) (lr_reach (rx_goto dL_law_1458 (tgt := 1642) (by decide) (rx_drop 5 (rx_drop 6 (Reach.here (lr_end ⟨rfl, rfl, rfl, hk⟩))))))
  · refine lr_wrap (w_pays_no hT) (List.mem_of_getElem? (i := 1372) (by decide +kernel)) (List.mem_of_getElem? (i := 94) (by decide +kernel)) ⟨by decide, by decide, rfl⟩ (by decide) (List.mem_of_getElem? (i := 1371) (by decide +kernel)) (List.mem_of_getElem? (i := 1370) (by decide +kernel)) (by decide) rfl rfl (by decide) dL_law_1401 (fun r M2 hp => ?_)
    obtain ⟨rfl, rfl⟩ := hp
    refine lr_ist (i := 5) dL_law_1404 (by decide) rfl ?_
    refine lr_al (i := 2) dL_law_1406 rfl rfl ?_
    refine lr_arg (q := 1) dL_law_1407 dL_law_1408 dL_law_1410 rfl dL_law_1411 dL_law_1412 rfl rfl (by omega) hL ?_
    refine lr_arg (q := 2) dL_law_1413 dL_law_1414 dL_law_1416 rfl dL_law_1417 dL_law_1418 rfl rfl (by omega) hL ?_
    refine lr_arg (q := 3) dL_law_1419 dL_law_1420 dL_law_1422 rfl dL_law_1423 dL_law_1424 rfl rfl (by omega) hL ?_
    refine lr_call (ci := 11) mo_X11_pays lk_L_194 (hM) (by decide) rfl rfl (Nat.le_of_ble_eq_true rfl) kl_140 rfl dL_law_1425 (fun v2 K hk => ?_)
    obtain ⟨⟨a, rfl⟩, h21, hk⟩ := hk
    refine lr_ist (i := 6) dL_law_1428 (by decide) rfl ?_
    refine lr_al (i := 2) dL_law_1430 rfl rfl ?_
    refine lr_call (ci := 11) mo_X11_thrown lk_L_55 c_X11_thrown (by decide) rfl rfl (Nat.le_of_ble_eq_true rfl) kl_140 rfl dL_law_1431 (fun v3 K3 hk3 => ?_)
    obtain ⟨rfl, rfl⟩ := hk3
    rw [h21]
    refine lr_il (i := 5) (x := 1) dL_law_1434 rfl ?_
    refine lr_eq dL_law_1436 (tgt := 1441) (by decide) ?_
    refine lr_il (i := 5) (x := 1) dL_law_1441 rfl ?_
    exact lr_reach (rx_if_ne dL_law_1443 (tgt := 1458) (by decide) (fun _ => Reach.here (lr_reach (rx_goto dL_law_1458 (tgt := 1642) (by decide) (rx_drop 5 (rx_drop 6 (Reach.here (lr_end ⟨rfl, rfl, rfl, hk⟩))))))) (fun z => absurd z (by decide)))
theorem lc_spread (h : Sim M n m dx tn) (hd : dx ≤ 60000) (hi : i + 4 < L) (hL : L < 2 ^ 31) : LR L xs 1 (QE i dx) 1461 (lsI i) [] M := by
  obtain ⟨V, hC, hT, hM⟩ := s_spread h
  refine lr_al (i := 1) dL_law_1461 rfl rfl ?_
  refine lr_call (ci := 10) mo_X10_spread lk_L_195 hC (by decide) rfl rfl (Nat.le_of_ble_eq_true rfl) kl_0 rfl dL_law_1462 (fun v N hv => ?_)
  obtain ⟨a, rfl⟩ := ty_int (Or.inl rfl) (hT v N hv)
  refine lr_al (i := 2) dL_law_1465 rfl rfl ?_
  refine lr_call (ci := 11) mo_X11_spread lk_L_198 (hM _ N hv) (by decide) rfl rfl (Nat.le_of_ble_eq_true rfl) kl_140 rfl dL_law_1466 (fun v2 K hk => ?_)
  obtain ⟨rfl, hk⟩ := hk
  exact lr_eq dL_law_1469 (tgt := 1642) (by decide) (lr_end ⟨rfl, rfl, rfl, hk⟩)
theorem lc_today (h : Sim M n m dx tn) (hd : dx ≤ 60000) (hi : i + 4 < L) (hL : L < 2 ^ 31) : LR L xs 1 (QE i dx) 1474 (lsI i) [] M := by
  obtain ⟨V, hC, hT, hM⟩ := s_today h
  refine lr_al (i := 1) dL_law_1474 rfl rfl ?_
  refine lr_call (ci := 10) mo_X10_today lk_L_199 hC (by decide) rfl rfl (Nat.le_of_ble_eq_true rfl) kl_0 rfl dL_law_1475 (fun v N hv => ?_)
  obtain ⟨a, rfl⟩ := ty_int (Or.inl rfl) (hT v N hv)
  refine lr_al (i := 2) dL_law_1478 rfl rfl ?_
  refine lr_call (ci := 11) mo_X11_today lk_L_202 (hM _ N hv) (by decide) rfl rfl (Nat.le_of_ble_eq_true rfl) kl_140 rfl dL_law_1479 (fun v2 K hk => ?_)
  obtain ⟨rfl, hk⟩ := hk
  exact lr_eq dL_law_1482 (tgt := 1642) (by decide) (lr_end ⟨rfl, rfl, rfl, hk⟩)
theorem lc_seed (h : Sim M n m dx tn) (hd : dx ≤ 60000) (hi : i + 4 < L) (hL : L < 2 ^ 31) : LR L xs 1 (QE i dx) 1487 (lsI i) [] M := by
  obtain ⟨V, hC, hT, hM⟩ := s_seed h (xs (i + 1))
  refine lr_al (i := 1) dL_law_1487 rfl rfl ?_
  refine lr_arg (q := 1) dL_law_1488 dL_law_1489 dL_law_1491 rfl dL_law_1492 dL_law_1493 rfl rfl (by omega) hL ?_
  refine lr_call (ci := 10) mo_X10_seed lk_L_203 hC (by decide) rfl rfl (Nat.le_of_ble_eq_true rfl) kl_0 rfl dL_law_1494 (fun v N hv => ?_)
  obtain ⟨a, rfl⟩ := ty_int (Or.inl rfl) (hT v N hv)
  refine lr_al (i := 2) dL_law_1497 rfl rfl ?_
  refine lr_arg (q := 1) dL_law_1498 dL_law_1499 dL_law_1501 rfl dL_law_1502 dL_law_1503 rfl rfl (by omega) hL ?_
  refine lr_call (ci := 11) mo_X11_seed lk_L_206 (hM _ N hv) (by decide) rfl rfl (Nat.le_of_ble_eq_true rfl) kl_140 rfl dL_law_1504 (fun v2 K hk => ?_)
  obtain ⟨rfl, hk⟩ := hk
  exact lr_eq dL_law_1507 (tgt := 1642) (by decide) (lr_end ⟨rfl, rfl, rfl, hk⟩)
theorem lc_keep (h : Sim M n m dx tn) (hd : dx ≤ 60000) (hi : i + 4 < L) (hL : L < 2 ^ 31) : LR L xs 1 (QE i dx) 1512 (lsI i) [] M := by
  obtain ⟨V, hC, hT, hM⟩ := s_keep h (xs (i + 1))
  refine lr_al (i := 1) dL_law_1512 rfl rfl ?_
  refine lr_arg (q := 1) dL_law_1513 dL_law_1514 dL_law_1516 rfl dL_law_1517 dL_law_1518 rfl rfl (by omega) hL ?_
  refine lr_call (ci := 10) mo_X10_keep lk_L_207 hC (by decide) rfl rfl (Nat.le_of_ble_eq_true rfl) kl_0 rfl dL_law_1519 (fun v N hv => ?_)
  obtain ⟨a, rfl⟩ := ty_int (Or.inr rfl) (hT v N hv)
  refine lr_al (i := 2) dL_law_1522 rfl rfl ?_
  refine lr_arg (q := 1) dL_law_1523 dL_law_1524 dL_law_1526 rfl dL_law_1527 dL_law_1528 rfl rfl (by omega) hL ?_
  refine lr_call (ci := 11) mo_X11_keep lk_L_210 (hM _ N hv) (by decide) rfl rfl (Nat.le_of_ble_eq_true rfl) kl_140 rfl dL_law_1529 (fun v2 K hk => ?_)
  obtain ⟨rfl, hk⟩ := hk
  exact lr_eq dL_law_1532 (tgt := 1642) (by decide) (lr_end ⟨rfl, rfl, rfl, hk⟩)
theorem lc_again (h : Sim M n m dx tn) (hd : dx ≤ 60000) (hi : i + 4 < L) (hL : L < 2 ^ 31) : LR L xs 1 (QE i dx) 1537 (lsI i) [] M := by
  obtain ⟨V, hC, hT, hM⟩ := s_again h (xs (i + 1))
  refine lr_al (i := 1) dL_law_1537 rfl rfl ?_
  refine lr_arg (q := 1) dL_law_1538 dL_law_1539 dL_law_1541 rfl dL_law_1542 dL_law_1543 rfl rfl (by omega) hL ?_
  refine lr_call (ci := 10) mo_X10_again lk_L_211 hC (by decide) rfl rfl (Nat.le_of_ble_eq_true rfl) kl_0 rfl dL_law_1544 (fun v N hv => ?_)
  obtain ⟨a, rfl⟩ := ty_int (Or.inr rfl) (hT v N hv)
  refine lr_al (i := 2) dL_law_1547 rfl rfl ?_
  refine lr_arg (q := 1) dL_law_1548 dL_law_1549 dL_law_1551 rfl dL_law_1552 dL_law_1553 rfl rfl (by omega) hL ?_
  refine lr_call (ci := 11) mo_X11_again lk_L_214 (hM _ N hv) (by decide) rfl rfl (Nat.le_of_ble_eq_true rfl) kl_140 rfl dL_law_1554 (fun v2 K hk => ?_)
  obtain ⟨rfl, hk⟩ := hk
  exact lr_eq dL_law_1557 (tgt := 1642) (by decide) (lr_end ⟨rfl, rfl, rfl, hk⟩)
theorem lc_count (h : Sim M n m dx tn) (hd : dx ≤ 60000) (hi : i + 4 < L) (hL : L < 2 ^ 31) : LR L xs 1 (QE i dx) 1562 (lsI i) [] M := by
  obtain ⟨V, hC, hT, hM⟩ := s_count h (xs (i + 1))
  refine lr_al (i := 1) dL_law_1562 rfl rfl ?_
  refine lr_arg (q := 1) dL_law_1563 dL_law_1564 dL_law_1566 rfl dL_law_1567 dL_law_1568 rfl rfl (by omega) hL ?_
  refine lr_call (ci := 10) mo_X10_count lk_L_215 hC (by decide) rfl rfl (Nat.le_of_ble_eq_true rfl) kl_0 rfl dL_law_1569 (fun v N hv => ?_)
  obtain ⟨a, rfl⟩ := ty_int (Or.inl rfl) (hT v N hv)
  refine lr_al (i := 2) dL_law_1572 rfl rfl ?_
  refine lr_arg (q := 1) dL_law_1573 dL_law_1574 dL_law_1576 rfl dL_law_1577 dL_law_1578 rfl rfl (by omega) hL ?_
  refine lr_call (ci := 11) mo_X11_count lk_L_218 (hM _ N hv) (by decide) rfl rfl (Nat.le_of_ble_eq_true rfl) kl_140 rfl dL_law_1579 (fun v2 K hk => ?_)
  obtain ⟨rfl, hk⟩ := hk
  exact lr_eq dL_law_1582 (tgt := 1642) (by decide) (lr_end ⟨rfl, rfl, rfl, hk⟩)
theorem lc_row (h : Sim M n m dx tn) (hd : dx ≤ 60000) (hi : i + 4 < L) (hL : L < 2 ^ 31) : LR L xs 1 (QE i dx) 1587 (lsI i) [] M := by
  refine lr_al (i := 1) dL_law_1587 rfl rfl ?_
  refine lr_arg (q := 1) dL_law_1588 dL_law_1589 dL_law_1591 rfl dL_law_1592 dL_law_1593 rfl rfl (by omega) hL ?_
  refine lr_al (i := 3) dL_law_1594 rfl rfl ?_
  rcases q_row h (xs (i + 1)) with ⟨V, hC, hT, hM⟩ | ⟨hT, hM⟩
  · refine lr_wrap (w_row_ok hC hT) (List.mem_of_getElem? (i := 1383) (by decide +kernel)) (List.mem_of_getElem? (i := 94) (by decide +kernel)) ⟨by decide, by decide, rfl⟩ (by decide) (List.mem_of_getElem? (i := 1382) (by decide +kernel)) (List.mem_of_getElem? (i := 1381) (by decide +kernel)) (by decide) rfl rfl (by decide) dL_law_1595 (fun r M2 hp => ?_)
    obtain ⟨rfl, a, N, hv, rfl⟩ := hp
    refine lr_ist (i := 5) dL_law_1598 (by decide) rfl ?_
    refine lr_al (i := 2) dL_law_1600 rfl rfl ?_
    refine lr_arg (q := 1) dL_law_1601 dL_law_1602 dL_law_1604 rfl dL_law_1605 dL_law_1606 rfl rfl (by omega) hL ?_
    refine lr_call (ci := 11) mo_X11_row lk_L_222 (hM a N hv) (by decide) rfl rfl (Nat.le_of_ble_eq_true rfl) kl_140 rfl dL_law_1607 (fun v2 K hk => ?_)
    obtain ⟨rfl, h21, h176, hk⟩ := hk
    refine lr_lst (i := 6) dL_law_1610 (by decide) rfl ?_
    refine lr_al (i := 2) dL_law_1612 rfl rfl ?_
    refine lr_call (ci := 11) mo_X11_thrown lk_L_55 c_X11_thrown (by decide) rfl rfl (Nat.le_of_ble_eq_true rfl) kl_140 rfl dL_law_1613 (fun v3 K3 hk3 => ?_)
    obtain ⟨rfl, rfl⟩ := hk3
    rw [h21]
    refine lr_il (i := 5) (x := 0) dL_law_1616 rfl ?_
    refine lr_eq dL_law_1618 (tgt := 1623) (by decide) ?_
    refine lr_il (i := 5) (x := 0) dL_law_1623 rfl ?_
    refine lr_reach (rx_if_ne dL_law_1625 (tgt := 1639) (by decide) (fun z => absurd rfl z) (fun _ => Reach.here ?_))
    refine lr_al (i := 3) dL_law_1628 rfl rfl ?_
    refine lr_reach (rx_iconst (nI 0) dL_law_1629 rfl (rx_laldN (id := 176) (n := 1) (k := 0) rfl (by decide) (by decide) dL_law_1630 (rx_lload (i := 6) (x := a) dL_law_1631 rfl (Reach.here ?_))))
    rw [h176]
    exact lr_leq dL_law_1633 dL_law_1634 (tgt := 1639) (by decide) (lr_reach (rx_goto dL_law_1639 (tgt := 1642) (by decide) (rx_drop 5 (rx_drop 6 (Reach.here (lr_end ⟨rfl, rfl, rfl, hk⟩))))))
  · refine lr_wrap (w_row_no hT) (List.mem_of_getElem? (i := 1383) (by decide +kernel)) (List.mem_of_getElem? (i := 94) (by decide +kernel)) ⟨by decide, by decide, rfl⟩ (by decide) (List.mem_of_getElem? (i := 1382) (by decide +kernel)) (List.mem_of_getElem? (i := 1381) (by decide +kernel)) (by decide) rfl rfl (by decide) dL_law_1595 (fun r M2 hp => ?_)
    obtain ⟨rfl, rfl⟩ := hp
    refine lr_ist (i := 5) dL_law_1598 (by decide) rfl ?_
    refine lr_al (i := 2) dL_law_1600 rfl rfl ?_
    refine lr_arg (q := 1) dL_law_1601 dL_law_1602 dL_law_1604 rfl dL_law_1605 dL_law_1606 rfl rfl (by omega) hL ?_
    refine lr_call (ci := 11) mo_X11_row lk_L_222 (hM) (by decide) rfl rfl (Nat.le_of_ble_eq_true rfl) kl_140 rfl dL_law_1607 (fun v2 K hk => ?_)
    obtain ⟨⟨a, rfl⟩, h21, hk⟩ := hk
    refine lr_lst (i := 6) dL_law_1610 (by decide) rfl ?_
    refine lr_al (i := 2) dL_law_1612 rfl rfl ?_
    refine lr_call (ci := 11) mo_X11_thrown lk_L_55 c_X11_thrown (by decide) rfl rfl (Nat.le_of_ble_eq_true rfl) kl_140 rfl dL_law_1613 (fun v3 K3 hk3 => ?_)
    obtain ⟨rfl, rfl⟩ := hk3
    rw [h21]
    refine lr_il (i := 5) (x := 1) dL_law_1616 rfl ?_
    refine lr_eq dL_law_1618 (tgt := 1623) (by decide) ?_
    refine lr_il (i := 5) (x := 1) dL_law_1623 rfl ?_
    exact lr_reach (rx_if_ne dL_law_1625 (tgt := 1639) (by decide) (fun _ => Reach.here (lr_reach (rx_goto dL_law_1639 (tgt := 1642) (by decide) (rx_drop 5 (rx_drop 6 (Reach.here (lr_end ⟨rfl, rfl, rfl, hk⟩))))))) (fun z => absurd z (by decide)))
theorem lc_in {k off tgt : Nat} (hx : (xs i &&& 63).toInt = (k : Int)) (hk : k < 46) (ho : (#[197, 222, 247, 260, 273, 341, 409, 446, 507, 520, 557, 594, 619, 644, 669, 706, 719, 756, 793, 806, 855, 904, 917, 942, 979, 1004, 1029, 1054, 1080, 1117, 1142, 1167, 1192, 1217, 1254, 1267, 1292, 1317, 1342, 1422, 1435, 1448, 1473, 1498, 1523, 1548] : Array Int)[k]? = some (off : Int)) (ht : 39 + off = tgt) (k0 : LR L xs 1 (QE i dx) tgt (lsI i) [] M) : LR L xs 1 (QE i dx) 39 (lsI i) [.int (xs i &&& 63)] M :=
  lr_reach (rx_tableIn (off := (off : Int)) dL_law_39 (by rw [hx]; omega) (by rw [hx]; omega) (by rw [hx]; exact ho) (by omega) (Reach.here k0))
theorem lc_any (h : Sim M n m dx tn) (hd : dx ≤ 60000) (hi : i + 4 < L) (hL : L < 2 ^ 31) : LR L xs 1 (QE i dx) 39 (lsI i) [.int (xs i &&& 63)] M := by
  by_cases z : 0 ≤ (xs i &&& 63).toInt ∧ (xs i &&& 63).toInt ≤ 45
  · obtain ⟨k, hk⟩ : ∃ k : Nat, (xs i &&& 63).toInt = (k : Int) := ⟨(xs i &&& 63).toInt.toNat, by omega⟩
    have hk46 : k < 46 := by omega
    have hc : k = 0 ∨ k = 1 ∨ k = 2 ∨ k = 3 ∨ k = 4 ∨ k = 5 ∨ k = 6 ∨ k = 7 ∨ k = 8 ∨ k = 9 ∨ k = 10 ∨ k = 11 ∨ k = 12 ∨ k = 13 ∨ k = 14 ∨ k = 15 ∨ k = 16 ∨ k = 17 ∨ k = 18 ∨ k = 19 ∨ k = 20 ∨ k = 21 ∨ k = 22 ∨ k = 23 ∨ k = 24 ∨ k = 25 ∨ k = 26 ∨ k = 27 ∨ k = 28 ∨ k = 29 ∨ k = 30 ∨ k = 31 ∨ k = 32 ∨ k = 33 ∨ k = 34 ∨ k = 35 ∨ k = 36 ∨ k = 37 ∨ k = 38 ∨ k = 39 ∨ k = 40 ∨ k = 41 ∨ k = 42 ∨ k = 43 ∨ k = 44 ∨ k = 45 := by omega
    rcases hc with rfl | rfl | rfl | rfl | rfl | rfl | rfl | rfl | rfl | rfl | rfl | rfl | rfl | rfl | rfl | rfl | rfl | rfl | rfl | rfl | rfl | rfl | rfl | rfl | rfl | rfl | rfl | rfl | rfl | rfl | rfl | rfl | rfl | rfl | rfl | rfl | rfl | rfl | rfl | rfl | rfl | rfl | rfl | rfl | rfl | rfl
    · exact lc_in (off := 197) hk (by decide) rfl rfl (lc_sign h hd hi hL)
    · exact lc_in (off := 222) hk (by decide) rfl rfl (lc_end h hd hi hL)
    · exact lc_in (off := 247) hk (by decide) rfl rfl (lc_town h hd hi hL)
    · exact lc_in (off := 260) hk (by decide) rfl rfl (lc_rule h hd hi hL)
    · exact lc_in (off := 273) hk (by decide) rfl rfl (lc_of h hd hi hL)
    · exact lc_in (off := 341) hk (by decide) rfl rfl (lc_debt h hd hi hL)
    · exact lc_in (off := 409) hk (by decide) rfl rfl (lc_law h hd hi hL)
    · exact lc_in (off := 446) hk (by decide) rfl rfl (lc_sheet h hd hi hL)
    · exact lc_in (off := 507) hk (by decide) rfl rfl (lc_noon h hd hi hL)
    · exact lc_in (off := 520) hk (by decide) rfl rfl (lc_hide h hd hi hL)
    · exact lc_in (off := 557) hk (by decide) rfl rfl (lc_search h hd hi hL)
    · exact lc_in (off := 594) hk (by decide) rfl rfl (lc_below h hd hi hL)
    · exact lc_in (off := 619) hk (by decide) rfl rfl (lc_may h hd hi hL)
    · exact lc_in (off := 644) hk (by decide) rfl rfl (lc_willing h hd hi hL)
    · exact lc_in (off := 669) hk (by decide) rfl rfl (lc_pay h hd hi hL)
    · exact lc_in (off := 706) hk (by decide) rfl rfl (lc_undo h hd hi hL)
    · exact lc_in (off := 719) hk (by decide) rfl rfl (lc_judge h hd hi hL)
    · exact lc_in (off := 756) hk (by decide) rfl rfl (lc_favour h hd hi hL)
    · exact lc_in (off := 793) hk (by decide) rfl rfl (lc_nets h hd hi hL)
    · exact lc_in (off := 806) hk (by decide) rfl rfl (lc_give h hd hi hL)
    · exact lc_in (off := 855) hk (by decide) rfl rfl (lc_lend h hd hi hL)
    · exact lc_in (off := 904) hk (by decide) rfl rfl (lc_back h hd hi hL)
    · exact lc_in (off := 917) hk (by decide) rfl rfl (lc_gift h hd hi hL)
    · exact lc_in (off := 942) hk (by decide) rfl rfl (lc_poorer h hd hi hL)
    · exact lc_in (off := 979) hk (by decide) rfl rfl (lc_most h hd hi hL)
    · exact lc_in (off := 1004) hk (by decide) rfl rfl (lc_all h hd hi hL)
    · exact lc_in (off := 1029) hk (by decide) rfl rfl (lc_never h hd hi hL)
    · exact lc_in (off := 1054) hk (by decide) rfl rfl (lc_ways h hd hi hL)
    · exact lc_in (off := 1080) hk (by decide) rfl rfl (lc_ahead h hd hi hL)
    · exact lc_in (off := 1117) hk (by decide) rfl rfl (lc_fewest h hd hi hL)
    · exact lc_in (off := 1142) hk (by decide) rfl rfl (lc_sorts h hd hi hL)
    · exact lc_in (off := 1167) hk (by decide) rfl rfl (lc_flow h hd hi hL)
    · exact lc_in (off := 1192) hk (by decide) rfl rfl (lc_proof h hd hi hL)
    · exact lc_in (off := 1217) hk (by decide) rfl rfl (lc_gap h hd hi hL)
    · exact lc_in (off := 1254) hk (by decide) rfl rfl (lc_lowest h hd hi hL)
    · exact lc_in (off := 1267) hk (by decide) rfl rfl (lc_lapse h hd hi hL)
    · exact lc_in (off := 1292) hk (by decide) rfl rfl (lc_days h hd hi hL)
    · exact lc_in (off := 1317) hk (by decide) rfl rfl (lc_best h hd hi hL)
    · exact lc_in (off := 1342) hk (by decide) rfl rfl (lc_pays h hd hi hL)
    · exact lc_in (off := 1422) hk (by decide) rfl rfl (lc_spread h hd hi hL)
    · exact lc_in (off := 1435) hk (by decide) rfl rfl (lc_today h hd hi hL)
    · exact lc_in (off := 1448) hk (by decide) rfl rfl (lc_seed h hd hi hL)
    · exact lc_in (off := 1473) hk (by decide) rfl rfl (lc_keep h hd hi hL)
    · exact lc_in (off := 1498) hk (by decide) rfl rfl (lc_again h hd hi hL)
    · exact lc_in (off := 1523) hk (by decide) rfl rfl (lc_count h hd hi hL)
    · exact lc_in (off := 1548) hk (by decide) rfl rfl (lc_row h hd hi hL)
  · exact lr_reach (rx_tableOut (tgt := 1642) dL_law_39 (by omega) (by decide) (Reach.here (lr_end ⟨rfl, rfl, rfl, n, m, tn, h.dx (by omega)⟩)))
end
