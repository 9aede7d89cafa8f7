set_option maxHeartbeats 4000000 in
set_option maxRecDepth 100000 in
theorem Lc_7 {p : Program} {l : Launch} {e : Env} {s : State} {m : MethodId} {below : List Frame} {meth : Method} {c : Code} {b L : Nat} {xs : Nat → Int32} {X : Cx} {fa : Nat} (G : LX p s m c b L xs X fa) {i : Nat} (hi : i + 5 ≤ L) (nx : LB p l e s m below meth c b X i 1067) : LB p l e s m below meth c b X i 321 := by
  obtain ⟨S, hK, hN, hX, hbl, hF, hL⟩ := G
  obtain ⟨hx, hb, hml, hown, hts⟩ := id S
  have hbA : ¬ nA s b := fun z => by have z : s.heap.size ≤ b := z; omega
  intro H locs ls h hl hH hR
  have hI := hH.2.2.1
  refine lv_aload_n hx hb dL_law_321 rfl (lv_at hl 1 rfl) ?_
  refine lv_aload_n hx hb dL_law_322 rfl (lv_at hl 0 rfl) ?_
  refine lv_iload_n hx hb dL_law_323 rfl (lv_at hl 3 rfl) ?_
  refine lv_iconst (v := 1) hx hb dL_law_324 (by decide) ?_
  refine lv_iadd hx hb dL_law_325 ?_
  refine va_sld (A := nA s) hx hb hX hbl hbA hH.2.1 (vin 1 (by decide) hi hL) dL_law_326 ?_
  obtain ⟨r, h1, h2, e1, e2, hR2⟩ := st_order hR ((xs (nI i + 1).toNatClampNeg))
  refine wk_callVi (ci := 5) (b := 0) (As := [.int (xs (nI i + 1).toNatClampNeg)]) (rest := []) S hK hN hH rfl (by decide) rfl (C_X6_order l X hI rfl _ _ _ _ e1) (cwV 1 hts (gV tTl m_411 m_412 m_413 m_35 m_414) rfl rfl rfl hdV_X6_order ⟨Nat.le_of_ble_eq_true rfl, Nat.le_of_ble_eq_true rfl⟩) hl.1 rfl rfl (Nat.le_of_ble_eq_true rfl) dL_law_327 ⟨Nat.le_of_ble_eq_true rfl, Nat.le_of_ble_eq_true rfl⟩ (fun H locs hH => ?_)
  refine lv_aload_n hx hb dL_law_330 rfl (lv_at hl 2 rfl) ?_
  refine lv_aload_n hx hb dL_law_331 rfl (lv_at hl 0 rfl) ?_
  refine lv_iload_n hx hb dL_law_332 rfl (lv_at hl 3 rfl) ?_
  refine lv_iconst (v := 1) hx hb dL_law_333 (by decide) ?_
  refine lv_iadd hx hb dL_law_334 ?_
  refine va_sld (A := nA s) hx hb hX hbl hbA hH.2.1 (vin 1 (by decide) hi hL) dL_law_335 ?_
  refine wk_callVi (ci := 6) (b := 41) (As := [.int (xs (nI i + 1).toNatClampNeg)]) (rest := [.int r]) S hK hN hH rfl (by decide) rfl (C_X7_order l X hI rfl _ _ _ _ e2) (cwV 1 hts (gV tTl m_835 m_836 m_837 m_41 m_838) rfl rfl rfl hdV_X7_order ⟨Nat.le_of_ble_eq_true rfl, Nat.le_of_ble_eq_true rfl⟩) hl.1 rfl rfl (Nat.le_of_ble_eq_true rfl) dL_law_336 ⟨Nat.le_of_ble_eq_true rfl, Nat.le_of_ble_eq_true rfl⟩ (fun H locs hH => ?_)
  refine lv_icmp_eq (tgt := 1067) hx hb dL_law_339 (by decide) (fun _ => ?_) (fun c1 => absurd rfl c1)
  exact nx H locs ls h2 hl hH hR2
set_option maxHeartbeats 4000000 in
set_option maxRecDepth 100000 in
theorem Lc_8 {p : Program} {l : Launch} {e : Env} {s : State} {m : MethodId} {below : List Frame} {meth : Method} {c : Code} {b L : Nat} {xs : Nat → Int32} {X : Cx} {fa : Nat} (G : LX p s m c b L xs X fa) {i : Nat} (hi : i + 5 ≤ L) (nx : LB p l e s m below meth c b X i 1067) : LB p l e s m below meth c b X i 344 := by
  obtain ⟨S, hK, hN, hX, hbl, hF, hL⟩ := G
  obtain ⟨hx, hb, hml, hown, hts⟩ := id S
  have hbA : ¬ nA s b := fun z => by have z : s.heap.size ≤ b := z; omega
  intro H locs ls h hl hH hR
  have hI := hH.2.2.1
  refine lv_aload_n hx hb dL_law_344 rfl (lv_at hl 1 rfl) ?_
  refine lv_aload_n hx hb dL_law_345 rfl (lv_at hl 0 rfl) ?_
  refine lv_iload_n hx hb dL_law_346 rfl (lv_at hl 3 rfl) ?_
  refine lv_iconst (v := 1) hx hb dL_law_347 (by decide) ?_
  refine lv_iadd hx hb dL_law_348 ?_
  refine va_sld (A := nA s) hx hb hX hbl hbA hH.2.1 (vin 1 (by decide) hi hL) dL_law_349 ?_
  refine lv_aload_n hx hb dL_law_350 rfl (lv_at hl 0 rfl) ?_
  refine lv_iload_n hx hb dL_law_351 rfl (lv_at hl 3 rfl) ?_
  refine lv_iconst (v := 2) hx hb dL_law_352 (by decide) ?_
  refine lv_iadd hx hb dL_law_353 ?_
  refine va_sld (A := nA s) hx hb hX hbl hbA hH.2.1 (vin 2 (by decide) hi hL) dL_law_354 ?_
  obtain ⟨r, h1, h2, e1, e2, hR2⟩ := st_made hR ((xs (nI i + 1).toNatClampNeg)) ((xs (nI i + 2).toNatClampNeg))
  refine wk_callVi (ci := 5) (b := 0) (As := [.int (xs (nI i + 1).toNatClampNeg), .int (xs (nI i + 2).toNatClampNeg)]) (rest := []) S hK hN hH rfl (by decide) rfl (C_X6_made l X hI rfl _ _ _ _ _ e1) (cwV 2 hts (gV tTl m_415 m_416 m_417 m_35 m_418) rfl rfl rfl hdV_X6_made ⟨Nat.le_of_ble_eq_true rfl, Nat.le_of_ble_eq_true rfl⟩) hl.1 rfl rfl (Nat.le_of_ble_eq_true rfl) dL_law_355 ⟨Nat.le_of_ble_eq_true rfl, Nat.le_of_ble_eq_true rfl⟩ (fun H locs hH => ?_)
  refine lv_aload_n hx hb dL_law_358 rfl (lv_at hl 2 rfl) ?_
  refine lv_aload_n hx hb dL_law_359 rfl (lv_at hl 0 rfl) ?_
  refine lv_iload_n hx hb dL_law_360 rfl (lv_at hl 3 rfl) ?_
  refine lv_iconst (v := 1) hx hb dL_law_361 (by decide) ?_
  refine lv_iadd hx hb dL_law_362 ?_
  refine va_sld (A := nA s) hx hb hX hbl hbA hH.2.1 (vin 1 (by decide) hi hL) dL_law_363 ?_
  refine lv_aload_n hx hb dL_law_364 rfl (lv_at hl 0 rfl) ?_
  refine lv_iload_n hx hb dL_law_365 rfl (lv_at hl 3 rfl) ?_
  refine lv_iconst (v := 2) hx hb dL_law_366 (by decide) ?_
  refine lv_iadd hx hb dL_law_367 ?_
  refine va_sld (A := nA s) hx hb hX hbl hbA hH.2.1 (vin 2 (by decide) hi hL) dL_law_368 ?_
  refine wk_callVi (ci := 6) (b := 41) (As := [.int (xs (nI i + 1).toNatClampNeg), .int (xs (nI i + 2).toNatClampNeg)]) (rest := [.int r]) S hK hN hH rfl (by decide) rfl (C_X7_made l X hI rfl _ _ _ _ _ e2) (cwV 2 hts (gV tTl m_839 m_840 m_841 m_41 m_842) rfl rfl rfl hdV_X7_made ⟨Nat.le_of_ble_eq_true rfl, Nat.le_of_ble_eq_true rfl⟩) hl.1 rfl rfl (Nat.le_of_ble_eq_true rfl) dL_law_369 ⟨Nat.le_of_ble_eq_true rfl, Nat.le_of_ble_eq_true rfl⟩ (fun H locs hH => ?_)
  refine lv_icmp_eq (tgt := 1067) hx hb dL_law_372 (by decide) (fun _ => ?_) (fun c1 => absurd rfl c1)
  exact nx H locs ls h2 hl hH hR2
set_option maxHeartbeats 4000000 in
set_option maxRecDepth 100000 in
theorem Lc_9 {p : Program} {l : Launch} {e : Env} {s : State} {m : MethodId} {below : List Frame} {meth : Method} {c : Code} {b L : Nat} {xs : Nat → Int32} {X : Cx} {fa : Nat} (G : LX p s m c b L xs X fa) {i : Nat} (hi : i + 5 ≤ L) (nx : LB p l e s m below meth c b X i 1067) : LB p l e s m below meth c b X i 377 := by
  obtain ⟨S, hK, hN, hX, hbl, hF, hL⟩ := G
  obtain ⟨hx, hb, hml, hown, hts⟩ := id S
  have hbA : ¬ nA s b := fun z => by have z : s.heap.size ≤ b := z; omega
  intro H locs ls h hl hH hR
  have hI := hH.2.2.1
  refine lv_aload_n hx hb dL_law_377 rfl (lv_at hl 1 rfl) ?_
  refine lv_aload_n hx hb dL_law_378 rfl (lv_at hl 0 rfl) ?_
  refine lv_iload_n hx hb dL_law_379 rfl (lv_at hl 3 rfl) ?_
  refine lv_iconst (v := 1) hx hb dL_law_380 (by decide) ?_
  refine lv_iadd hx hb dL_law_381 ?_
  refine va_sld (A := nA s) hx hb hX hbl hbA hH.2.1 (vin 1 (by decide) hi hL) dL_law_382 ?_
  refine lv_aload_n hx hb dL_law_383 rfl (lv_at hl 0 rfl) ?_
  refine lv_iload_n hx hb dL_law_384 rfl (lv_at hl 3 rfl) ?_
  refine lv_iconst (v := 2) hx hb dL_law_385 (by decide) ?_
  refine lv_iadd hx hb dL_law_386 ?_
  refine va_sld (A := nA s) hx hb hX hbl hbA hH.2.1 (vin 2 (by decide) hi hL) dL_law_387 ?_
  refine lv_aload_n hx hb dL_law_388 rfl (lv_at hl 0 rfl) ?_
  refine lv_iload_n hx hb dL_law_389 rfl (lv_at hl 3 rfl) ?_
  refine lv_iconst (v := 3) hx hb dL_law_390 (by decide) ?_
  refine lv_iadd hx hb dL_law_391 ?_
  refine va_sld (A := nA s) hx hb hX hbl hbA hH.2.1 (vin 3 (by decide) hi hL) dL_law_392 ?_
  obtain ⟨r, h1, h2, e1, e2, hR2⟩ := st_step hR ((xs (nI i + 1).toNatClampNeg)) ((xs (nI i + 2).toNatClampNeg)) ((xs (nI i + 3).toNatClampNeg))
  refine wk_callVi (ci := 5) (b := 0) (As := [.int (xs (nI i + 1).toNatClampNeg), .int (xs (nI i + 2).toNatClampNeg), .int (xs (nI i + 3).toNatClampNeg)]) (rest := []) S hK hN hH rfl (by decide) rfl (C_X6_step l X hI rfl _ _ _ _ _ _ e1) (cwV 3 hts (gV tTl m_426 m_427 m_428 m_35 m_429) rfl rfl rfl hdV_X6_step ⟨Nat.le_of_ble_eq_true rfl, Nat.le_of_ble_eq_true rfl⟩) hl.1 rfl rfl (Nat.le_of_ble_eq_true rfl) dL_law_393 ⟨Nat.le_of_ble_eq_true rfl, Nat.le_of_ble_eq_true rfl⟩ (fun H locs hH => ?_)
  refine lv_aload_n hx hb dL_law_396 rfl (lv_at hl 2 rfl) ?_
  refine lv_aload_n hx hb dL_law_397 rfl (lv_at hl 0 rfl) ?_
  refine lv_iload_n hx hb dL_law_398 rfl (lv_at hl 3 rfl) ?_
  refine lv_iconst (v := 1) hx hb dL_law_399 (by decide) ?_
  refine lv_iadd hx hb dL_law_400 ?_
  refine va_sld (A := nA s) hx hb hX hbl hbA hH.2.1 (vin 1 (by decide) hi hL) dL_law_401 ?_
  refine lv_aload_n hx hb dL_law_402 rfl (lv_at hl 0 rfl) ?_
  refine lv_iload_n hx hb dL_law_403 rfl (lv_at hl 3 rfl) ?_
  refine lv_iconst (v := 2) hx hb dL_law_404 (by decide) ?_
  refine lv_iadd hx hb dL_law_405 ?_
  refine va_sld (A := nA s) hx hb hX hbl hbA hH.2.1 (vin 2 (by decide) hi hL) dL_law_406 ?_
  refine lv_aload_n hx hb dL_law_407 rfl (lv_at hl 0 rfl) ?_
  refine lv_iload_n hx hb dL_law_408 rfl (lv_at hl 3 rfl) ?_
  refine lv_iconst (v := 3) hx hb dL_law_409 (by decide) ?_
  refine lv_iadd hx hb dL_law_410 ?_
  refine va_sld (A := nA s) hx hb hX hbl hbA hH.2.1 (vin 3 (by decide) hi hL) dL_law_411 ?_
  refine wk_callVi (ci := 6) (b := 41) (As := [.int (xs (nI i + 1).toNatClampNeg), .int (xs (nI i + 2).toNatClampNeg), .int (xs (nI i + 3).toNatClampNeg)]) (rest := [.int r]) S hK hN hH rfl (by decide) rfl (C_X7_step l X hI rfl _ _ _ _ _ _ e2) (cwV 3 hts (gV tTl m_843 m_844 m_845 m_41 m_846) rfl rfl rfl hdV_X7_step ⟨Nat.le_of_ble_eq_true rfl, Nat.le_of_ble_eq_true rfl⟩) hl.1 rfl rfl (Nat.le_of_ble_eq_true rfl) dL_law_412 ⟨Nat.le_of_ble_eq_true rfl, Nat.le_of_ble_eq_true rfl⟩ (fun H locs hH => ?_)
  refine lv_icmp_eq (tgt := 1067) hx hb dL_law_415 (by decide) (fun _ => ?_) (fun c1 => absurd rfl c1)
  exact nx H locs ls h2 hl hH hR2
set_option maxHeartbeats 4000000 in
set_option maxRecDepth 100000 in
theorem Lc_10 {p : Program} {l : Launch} {e : Env} {s : State} {m : MethodId} {below : List Frame} {meth : Method} {c : Code} {b L : Nat} {xs : Nat → Int32} {X : Cx} {fa : Nat} (G : LX p s m c b L xs X fa) {i : Nat} (hi : i + 5 ≤ L) (nx : LB p l e s m below meth c b X i 1067) : LB p l e s m below meth c b X i 420 := by
  obtain ⟨S, hK, hN, hX, hbl, hF, hL⟩ := G
  obtain ⟨hx, hb, hml, hown, hts⟩ := id S
  have hbA : ¬ nA s b := fun z => by have z : s.heap.size ≤ b := z; omega
  intro H locs ls h hl hH hR
  have hI := hH.2.2.1
  refine lv_aload_n hx hb dL_law_420 rfl (lv_at hl 1 rfl) ?_
  refine lv_aload_n hx hb dL_law_421 rfl (lv_at hl 0 rfl) ?_
  refine lv_iload_n hx hb dL_law_422 rfl (lv_at hl 3 rfl) ?_
  refine lv_iconst (v := 1) hx hb dL_law_423 (by decide) ?_
  refine lv_iadd hx hb dL_law_424 ?_
  refine va_sld (A := nA s) hx hb hX hbl hbA hH.2.1 (vin 1 (by decide) hi hL) dL_law_425 ?_
  refine lv_aload_n hx hb dL_law_426 rfl (lv_at hl 0 rfl) ?_
  refine lv_iload_n hx hb dL_law_427 rfl (lv_at hl 3 rfl) ?_
  refine lv_iconst (v := 2) hx hb dL_law_428 (by decide) ?_
  refine lv_iadd hx hb dL_law_429 ?_
  refine va_sld (A := nA s) hx hb hX hbl hbA hH.2.1 (vin 2 (by decide) hi hL) dL_law_430 ?_
  obtain ⟨r, h1, h2, e1, e2, hR2⟩ := st_apart hR ((xs (nI i + 1).toNatClampNeg)) ((xs (nI i + 2).toNatClampNeg))
  refine wk_callVi (ci := 5) (b := 0) (As := [.int (xs (nI i + 1).toNatClampNeg), .int (xs (nI i + 2).toNatClampNeg)]) (rest := []) S hK hN hH rfl (by decide) rfl (C_X6_apart l X hI rfl _ _ _ _ _ e1) (cwV 2 hts (gV tTl m_432 m_433 m_434 m_35 m_435) rfl rfl rfl hdV_X6_apart ⟨Nat.le_of_ble_eq_true rfl, Nat.le_of_ble_eq_true rfl⟩) hl.1 rfl rfl (Nat.le_of_ble_eq_true rfl) dL_law_431 ⟨Nat.le_of_ble_eq_true rfl, Nat.le_of_ble_eq_true rfl⟩ (fun H locs hH => ?_)
  refine lv_aload_n hx hb dL_law_434 rfl (lv_at hl 2 rfl) ?_
  refine lv_aload_n hx hb dL_law_435 rfl (lv_at hl 0 rfl) ?_
  refine lv_iload_n hx hb dL_law_436 rfl (lv_at hl 3 rfl) ?_
  refine lv_iconst (v := 1) hx hb dL_law_437 (by decide) ?_
  refine lv_iadd hx hb dL_law_438 ?_
  refine va_sld (A := nA s) hx hb hX hbl hbA hH.2.1 (vin 1 (by decide) hi hL) dL_law_439 ?_
  refine lv_aload_n hx hb dL_law_440 rfl (lv_at hl 0 rfl) ?_
  refine lv_iload_n hx hb dL_law_441 rfl (lv_at hl 3 rfl) ?_
  refine lv_iconst (v := 2) hx hb dL_law_442 (by decide) ?_
  refine lv_iadd hx hb dL_law_443 ?_
  refine va_sld (A := nA s) hx hb hX hbl hbA hH.2.1 (vin 2 (by decide) hi hL) dL_law_444 ?_
  refine wk_callVi (ci := 6) (b := 41) (As := [.int (xs (nI i + 1).toNatClampNeg), .int (xs (nI i + 2).toNatClampNeg)]) (rest := [.int r]) S hK hN hH rfl (by decide) rfl (C_X7_apart l X hI rfl _ _ _ _ _ e2) (cwV 2 hts (gV tTl m_847 m_848 m_849 m_41 m_850) rfl rfl rfl hdV_X7_apart ⟨Nat.le_of_ble_eq_true rfl, Nat.le_of_ble_eq_true rfl⟩) hl.1 rfl rfl (Nat.le_of_ble_eq_true rfl) dL_law_445 ⟨Nat.le_of_ble_eq_true rfl, Nat.le_of_ble_eq_true rfl⟩ (fun H locs hH => ?_)
  refine lv_icmp_eq (tgt := 1067) hx hb dL_law_448 (by decide) (fun _ => ?_) (fun c1 => absurd rfl c1)
  exact nx H locs ls h2 hl hH hR2
set_option maxHeartbeats 4000000 in
set_option maxRecDepth 100000 in
theorem Lc_11 {p : Program} {l : Launch} {e : Env} {s : State} {m : MethodId} {below : List Frame} {meth : Method} {c : Code} {b L : Nat} {xs : Nat → Int32} {X : Cx} {fa : Nat} (G : LX p s m c b L xs X fa) {i : Nat} (hi : i + 5 ≤ L) (nx : LB p l e s m below meth c b X i 1067) : LB p l e s m below meth c b X i 453 := by
  obtain ⟨S, hK, hN, hX, hbl, hF, hL⟩ := G
  obtain ⟨hx, hb, hml, hown, hts⟩ := id S
  have hbA : ¬ nA s b := fun z => by have z : s.heap.size ≤ b := z; omega
  intro H locs ls h hl hH hR
  have hI := hH.2.2.1
  refine lv_aload_n hx hb dL_law_453 rfl (lv_at hl 1 rfl) ?_
  refine lv_aload_n hx hb dL_law_454 rfl (lv_at hl 0 rfl) ?_
  refine lv_iload_n hx hb dL_law_455 rfl (lv_at hl 3 rfl) ?_
  refine lv_iconst (v := 1) hx hb dL_law_456 (by decide) ?_
  refine lv_iadd hx hb dL_law_457 ?_
  refine va_sld (A := nA s) hx hb hX hbl hbA hH.2.1 (vin 1 (by decide) hi hL) dL_law_458 ?_
  refine lv_aload_n hx hb dL_law_459 rfl (lv_at hl 0 rfl) ?_
  refine lv_iload_n hx hb dL_law_460 rfl (lv_at hl 3 rfl) ?_
  refine lv_iconst (v := 2) hx hb dL_law_461 (by decide) ?_
  refine lv_iadd hx hb dL_law_462 ?_
  refine va_sld (A := nA s) hx hb hX hbl hbA hH.2.1 (vin 2 (by decide) hi hL) dL_law_463 ?_
  obtain ⟨r, h1, h2, e1, e2, hR2⟩ := st_form hR ((xs (nI i + 1).toNatClampNeg)) ((xs (nI i + 2).toNatClampNeg))
  refine wk_callVi (ci := 5) (b := 0) (As := [.int (xs (nI i + 1).toNatClampNeg), .int (xs (nI i + 2).toNatClampNeg)]) (rest := []) S hK hN hH rfl (by decide) rfl (C_X6_form l X hI rfl _ _ _ _ _ e1) (cwV 2 hts (gV tTl m_440 m_441 m_442 m_35 m_443) rfl rfl rfl hdV_X6_form ⟨Nat.le_of_ble_eq_true rfl, Nat.le_of_ble_eq_true rfl⟩) hl.1 rfl rfl (Nat.le_of_ble_eq_true rfl) dL_law_464 ⟨Nat.le_of_ble_eq_true rfl, Nat.le_of_ble_eq_true rfl⟩ (fun H locs hH => ?_)
  refine lv_aload_n hx hb dL_law_467 rfl (lv_at hl 2 rfl) ?_
  refine lv_aload_n hx hb dL_law_468 rfl (lv_at hl 0 rfl) ?_
  refine lv_iload_n hx hb dL_law_469 rfl (lv_at hl 3 rfl) ?_
  refine lv_iconst (v := 1) hx hb dL_law_470 (by decide) ?_
  refine lv_iadd hx hb dL_law_471 ?_
  refine va_sld (A := nA s) hx hb hX hbl hbA hH.2.1 (vin 1 (by decide) hi hL) dL_law_472 ?_
  refine lv_aload_n hx hb dL_law_473 rfl (lv_at hl 0 rfl) ?_
  refine lv_iload_n hx hb dL_law_474 rfl (lv_at hl 3 rfl) ?_
  refine lv_iconst (v := 2) hx hb dL_law_475 (by decide) ?_
  refine lv_iadd hx hb dL_law_476 ?_
  refine va_sld (A := nA s) hx hb hX hbl hbA hH.2.1 (vin 2 (by decide) hi hL) dL_law_477 ?_
  refine wk_callVi (ci := 6) (b := 41) (As := [.int (xs (nI i + 1).toNatClampNeg), .int (xs (nI i + 2).toNatClampNeg)]) (rest := [.int r]) S hK hN hH rfl (by decide) rfl (C_X7_form l X hI rfl _ _ _ _ _ e2) (cwV 2 hts (gV tTl m_856 m_857 m_858 m_41 m_859) rfl rfl rfl hdV_X7_form ⟨Nat.le_of_ble_eq_true rfl, Nat.le_of_ble_eq_true rfl⟩) hl.1 rfl rfl (Nat.le_of_ble_eq_true rfl) dL_law_478 ⟨Nat.le_of_ble_eq_true rfl, Nat.le_of_ble_eq_true rfl⟩ (fun H locs hH => ?_)
  refine lv_icmp_eq (tgt := 1067) hx hb dL_law_481 (by decide) (fun _ => ?_) (fun c1 => absurd rfl c1)
  exact nx H locs ls h2 hl hH hR2
set_option maxHeartbeats 4000000 in
set_option maxRecDepth 100000 in
theorem Lc_12 {p : Program} {l : Launch} {e : Env} {s : State} {m : MethodId} {below : List Frame} {meth : Method} {c : Code} {b L : Nat} {xs : Nat → Int32} {X : Cx} {fa : Nat} (G : LX p s m c b L xs X fa) {i : Nat} (hi : i + 5 ≤ L) (nx : LB p l e s m below meth c b X i 1067) : LB p l e s m below meth c b X i 486 := by
  obtain ⟨S, hK, hN, hX, hbl, hF, hL⟩ := G
  obtain ⟨hx, hb, hml, hown, hts⟩ := id S
  have hbA : ¬ nA s b := fun z => by have z : s.heap.size ≤ b := z; omega
  intro H locs ls h hl hH hR
  have hI := hH.2.2.1
  refine lv_aload_n hx hb dL_law_486 rfl (lv_at hl 1 rfl) ?_
  refine lv_aload_n hx hb dL_law_487 rfl (lv_at hl 0 rfl) ?_
  refine lv_iload_n hx hb dL_law_488 rfl (lv_at hl 3 rfl) ?_
  refine lv_iconst (v := 1) hx hb dL_law_489 (by decide) ?_
  refine lv_iadd hx hb dL_law_490 ?_
  refine va_sld (A := nA s) hx hb hX hbl hbA hH.2.1 (vin 1 (by decide) hi hL) dL_law_491 ?_
  refine lv_aload_n hx hb dL_law_492 rfl (lv_at hl 0 rfl) ?_
  refine lv_iload_n hx hb dL_law_493 rfl (lv_at hl 3 rfl) ?_
  refine lv_iconst (v := 2) hx hb dL_law_494 (by decide) ?_
  refine lv_iadd hx hb dL_law_495 ?_
  refine va_sld (A := nA s) hx hb hX hbl hbA hH.2.1 (vin 2 (by decide) hi hL) dL_law_496 ?_
  obtain ⟨r, h1, h2, e1, e2, hR2⟩ := st_swap hR ((xs (nI i + 1).toNatClampNeg)) ((xs (nI i + 2).toNatClampNeg))
  refine wk_callVi (ci := 5) (b := 0) (As := [.int (xs (nI i + 1).toNatClampNeg), .int (xs (nI i + 2).toNatClampNeg)]) (rest := []) S hK hN hH rfl (by decide) rfl (C_X6_swap l X hI rfl _ _ _ _ _ e1) (cwV 2 hts (gV tTl m_445 m_446 m_447 m_35 m_448) rfl rfl rfl hdV_X6_swap ⟨Nat.le_of_ble_eq_true rfl, Nat.le_of_ble_eq_true rfl⟩) hl.1 rfl rfl (Nat.le_of_ble_eq_true rfl) dL_law_497 ⟨Nat.le_of_ble_eq_true rfl, Nat.le_of_ble_eq_true rfl⟩ (fun H locs hH => ?_)
  refine lv_aload_n hx hb dL_law_500 rfl (lv_at hl 2 rfl) ?_
  refine lv_aload_n hx hb dL_law_501 rfl (lv_at hl 0 rfl) ?_
  refine lv_iload_n hx hb dL_law_502 rfl (lv_at hl 3 rfl) ?_
  refine lv_iconst (v := 1) hx hb dL_law_503 (by decide) ?_
  refine lv_iadd hx hb dL_law_504 ?_
  refine va_sld (A := nA s) hx hb hX hbl hbA hH.2.1 (vin 1 (by decide) hi hL) dL_law_505 ?_
  refine lv_aload_n hx hb dL_law_506 rfl (lv_at hl 0 rfl) ?_
  refine lv_iload_n hx hb dL_law_507 rfl (lv_at hl 3 rfl) ?_
  refine lv_iconst (v := 2) hx hb dL_law_508 (by decide) ?_
  refine lv_iadd hx hb dL_law_509 ?_
  refine va_sld (A := nA s) hx hb hX hbl hbA hH.2.1 (vin 2 (by decide) hi hL) dL_law_510 ?_
  refine wk_callVi (ci := 6) (b := 41) (As := [.int (xs (nI i + 1).toNatClampNeg), .int (xs (nI i + 2).toNatClampNeg)]) (rest := [.int r]) S hK hN hH rfl (by decide) rfl (C_X7_swap l X hI rfl _ _ _ _ _ e2) (cwV 2 hts (gV tTl m_860 m_861 m_862 m_41 m_863) rfl rfl rfl hdV_X7_swap ⟨Nat.le_of_ble_eq_true rfl, Nat.le_of_ble_eq_true rfl⟩) hl.1 rfl rfl (Nat.le_of_ble_eq_true rfl) dL_law_511 ⟨Nat.le_of_ble_eq_true rfl, Nat.le_of_ble_eq_true rfl⟩ (fun H locs hH => ?_)
  refine lv_icmp_eq (tgt := 1067) hx hb dL_law_514 (by decide) (fun _ => ?_) (fun c1 => absurd rfl c1)
  exact nx H locs ls h2 hl hH hR2
set_option maxHeartbeats 4000000 in
set_option maxRecDepth 100000 in
theorem Lc_13 {p : Program} {l : Launch} {e : Env} {s : State} {m : MethodId} {below : List Frame} {meth : Method} {c : Code} {b L : Nat} {xs : Nat → Int32} {X : Cx} {fa : Nat} (G : LX p s m c b L xs X fa) {i : Nat} (hi : i + 5 ≤ L) (nx : LB p l e s m below meth c b X i 1067) : LB p l e s m below meth c b X i 519 := by
  obtain ⟨S, hK, hN, hX, hbl, hF, hL⟩ := G
  obtain ⟨hx, hb, hml, hown, hts⟩ := id S
  have hbA : ¬ nA s b := fun z => by have z : s.heap.size ≤ b := z; omega
  intro H locs ls h hl hH hR
  have hI := hH.2.2.1
  refine lv_aload_n hx hb dL_law_519 rfl (lv_at hl 1 rfl) ?_
  refine lv_aload_n hx hb dL_law_520 rfl (lv_at hl 0 rfl) ?_
  refine lv_iload_n hx hb dL_law_521 rfl (lv_at hl 3 rfl) ?_
  refine lv_iconst (v := 1) hx hb dL_law_522 (by decide) ?_
  refine lv_iadd hx hb dL_law_523 ?_
  refine va_sld (A := nA s) hx hb hX hbl hbA hH.2.1 (vin 1 (by decide) hi hL) dL_law_524 ?_
  refine lv_aload_n hx hb dL_law_525 rfl (lv_at hl 0 rfl) ?_
  refine lv_iload_n hx hb dL_law_526 rfl (lv_at hl 3 rfl) ?_
  refine lv_iconst (v := 2) hx hb dL_law_527 (by decide) ?_
  refine lv_iadd hx hb dL_law_528 ?_
  refine va_sld (A := nA s) hx hb hX hbl hbA hH.2.1 (vin 2 (by decide) hi hL) dL_law_529 ?_
  refine lv_aload_n hx hb dL_law_530 rfl (lv_at hl 0 rfl) ?_
  refine lv_iload_n hx hb dL_law_531 rfl (lv_at hl 3 rfl) ?_
  refine lv_iconst (v := 3) hx hb dL_law_532 (by decide) ?_
  refine lv_iadd hx hb dL_law_533 ?_
  refine va_sld (A := nA s) hx hb hX hbl hbA hH.2.1 (vin 3 (by decide) hi hL) dL_law_534 ?_
  obtain ⟨r, h1, h2, e1, e2, hR2⟩ := st_resign hR ((xs (nI i + 1).toNatClampNeg)) ((xs (nI i + 2).toNatClampNeg)) ((xs (nI i + 3).toNatClampNeg))
  refine wk_callVi (ci := 5) (b := 0) (As := [.int (xs (nI i + 1).toNatClampNeg), .int (xs (nI i + 2).toNatClampNeg), .int (xs (nI i + 3).toNatClampNeg)]) (rest := []) S hK hN hH rfl (by decide) rfl (C_X6_resign l X hI rfl _ _ _ _ _ _ e1) (cwV 3 hts (gV tTl m_457 m_458 m_459 m_35 m_460) rfl rfl rfl hdV_X6_resign ⟨Nat.le_of_ble_eq_true rfl, Nat.le_of_ble_eq_true rfl⟩) hl.1 rfl rfl (Nat.le_of_ble_eq_true rfl) dL_law_535 ⟨Nat.le_of_ble_eq_true rfl, Nat.le_of_ble_eq_true rfl⟩ (fun H locs hH => ?_)
  refine lv_aload_n hx hb dL_law_538 rfl (lv_at hl 2 rfl) ?_
  refine lv_aload_n hx hb dL_law_539 rfl (lv_at hl 0 rfl) ?_
  refine lv_iload_n hx hb dL_law_540 rfl (lv_at hl 3 rfl) ?_
  refine lv_iconst (v := 1) hx hb dL_law_541 (by decide) ?_
  refine lv_iadd hx hb dL_law_542 ?_
  refine va_sld (A := nA s) hx hb hX hbl hbA hH.2.1 (vin 1 (by decide) hi hL) dL_law_543 ?_
  refine lv_aload_n hx hb dL_law_544 rfl (lv_at hl 0 rfl) ?_
  refine lv_iload_n hx hb dL_law_545 rfl (lv_at hl 3 rfl) ?_
  refine lv_iconst (v := 2) hx hb dL_law_546 (by decide) ?_
  refine lv_iadd hx hb dL_law_547 ?_
  refine va_sld (A := nA s) hx hb hX hbl hbA hH.2.1 (vin 2 (by decide) hi hL) dL_law_548 ?_
  refine lv_aload_n hx hb dL_law_549 rfl (lv_at hl 0 rfl) ?_
  refine lv_iload_n hx hb dL_law_550 rfl (lv_at hl 3 rfl) ?_
  refine lv_iconst (v := 3) hx hb dL_law_551 (by decide) ?_
  refine lv_iadd hx hb dL_law_552 ?_
  refine va_sld (A := nA s) hx hb hX hbl hbA hH.2.1 (vin 3 (by decide) hi hL) dL_law_553 ?_
  refine wk_callVi (ci := 6) (b := 41) (As := [.int (xs (nI i + 1).toNatClampNeg), .int (xs (nI i + 2).toNatClampNeg), .int (xs (nI i + 3).toNatClampNeg)]) (rest := [.int r]) S hK hN hH rfl (by decide) rfl (C_X7_resign l X hI rfl _ _ _ _ _ _ e2) (cwV 3 hts (gV tTl m_871 m_872 m_873 m_41 m_874) rfl rfl rfl hdV_X7_resign ⟨Nat.le_of_ble_eq_true rfl, Nat.le_of_ble_eq_true rfl⟩) hl.1 rfl rfl (Nat.le_of_ble_eq_true rfl) dL_law_554 ⟨Nat.le_of_ble_eq_true rfl, Nat.le_of_ble_eq_true rfl⟩ (fun H locs hH => ?_)
  refine lv_icmp_eq (tgt := 1067) hx hb dL_law_557 (by decide) (fun _ => ?_) (fun c1 => absurd rfl c1)
  exact nx H locs ls h2 hl hH hR2
