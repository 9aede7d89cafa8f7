set_option maxHeartbeats 4000000 in
set_option maxRecDepth 100000 in
theorem Lc_14 {p : Program} {l : Launch} {e : Env} {s : State} {m : MethodId} {below : List Frame} {meth : Method} {c : Code} {b L : Nat} {xs : Nat → Int32} {X : Cx} {fa : Nat} (G : LX p s m c b L xs X fa) {i : Nat} (hi : i + 5 ≤ L) (nx : LB p l e s m below meth c b X i 1067) : LB p l e s m below meth c b X i 562 := by
  obtain ⟨S, hK, hN, hX, hbl, hF, hL⟩ := G
  obtain ⟨hx, hb, hml, hown, hts⟩ := id S
  have hbA : ¬ nA s b := fun z => by have z : s.heap.size ≤ b := z; omega
  intro H locs ls h hl hH hR
  have hI := hH.2.2.1
  refine lv_aload_n hx hb dL_law_562 rfl (lv_at hl 1 rfl) ?_
  refine lv_aload_n hx hb dL_law_563 rfl (lv_at hl 0 rfl) ?_
  refine lv_iload_n hx hb dL_law_564 rfl (lv_at hl 3 rfl) ?_
  refine lv_iconst (v := 1) hx hb dL_law_565 (by decide) ?_
  refine lv_iadd hx hb dL_law_566 ?_
  refine va_sld (A := nA s) hx hb hX hbl hbA hH.2.1 (vin 1 (by decide) hi hL) dL_law_567 ?_
  refine lv_aload_n hx hb dL_law_568 rfl (lv_at hl 0 rfl) ?_
  refine lv_iload_n hx hb dL_law_569 rfl (lv_at hl 3 rfl) ?_
  refine lv_iconst (v := 2) hx hb dL_law_570 (by decide) ?_
  refine lv_iadd hx hb dL_law_571 ?_
  refine va_sld (A := nA s) hx hb hX hbl hbA hH.2.1 (vin 2 (by decide) hi hL) dL_law_572 ?_
  refine lv_aload_n hx hb dL_law_573 rfl (lv_at hl 0 rfl) ?_
  refine lv_iload_n hx hb dL_law_574 rfl (lv_at hl 3 rfl) ?_
  refine lv_iconst (v := 3) hx hb dL_law_575 (by decide) ?_
  refine lv_iadd hx hb dL_law_576 ?_
  refine va_sld (A := nA s) hx hb hX hbl hbA hH.2.1 (vin 3 (by decide) hi hL) dL_law_577 ?_
  obtain ⟨r, h1, h2, e1, e2, hR2⟩ := st_tell hR ((xs (nI i + 1).toNatClampNeg)) ((xs (nI i + 2).toNatClampNeg)) ((xs (nI i + 3).toNatClampNeg))
  refine wk_callVi (ci := 5) (b := 0) (As := [.int (xs (nI i + 1).toNatClampNeg), .int (xs (nI i + 2).toNatClampNeg), .int (xs (nI i + 3).toNatClampNeg)]) (rest := []) S hK hN hH rfl (by decide) rfl (C_X6_tell l X hI rfl _ _ _ _ _ _ e1) (cwV 3 hts (gV tTl m_466 m_467 m_468 m_35 m_469) rfl rfl rfl hdV_X6_tell ⟨Nat.le_of_ble_eq_true rfl, Nat.le_of_ble_eq_true rfl⟩) hl.1 rfl rfl (Nat.le_of_ble_eq_true rfl) dL_law_578 ⟨Nat.le_of_ble_eq_true rfl, Nat.le_of_ble_eq_true rfl⟩ (fun H locs hH => ?_)
  refine lv_aload_n hx hb dL_law_581 rfl (lv_at hl 2 rfl) ?_
  refine lv_aload_n hx hb dL_law_582 rfl (lv_at hl 0 rfl) ?_
  refine lv_iload_n hx hb dL_law_583 rfl (lv_at hl 3 rfl) ?_
  refine lv_iconst (v := 1) hx hb dL_law_584 (by decide) ?_
  refine lv_iadd hx hb dL_law_585 ?_
  refine va_sld (A := nA s) hx hb hX hbl hbA hH.2.1 (vin 1 (by decide) hi hL) dL_law_586 ?_
  refine lv_aload_n hx hb dL_law_587 rfl (lv_at hl 0 rfl) ?_
  refine lv_iload_n hx hb dL_law_588 rfl (lv_at hl 3 rfl) ?_
  refine lv_iconst (v := 2) hx hb dL_law_589 (by decide) ?_
  refine lv_iadd hx hb dL_law_590 ?_
  refine va_sld (A := nA s) hx hb hX hbl hbA hH.2.1 (vin 2 (by decide) hi hL) dL_law_591 ?_
  refine lv_aload_n hx hb dL_law_592 rfl (lv_at hl 0 rfl) ?_
  refine lv_iload_n hx hb dL_law_593 rfl (lv_at hl 3 rfl) ?_
  refine lv_iconst (v := 3) hx hb dL_law_594 (by decide) ?_
  refine lv_iadd hx hb dL_law_595 ?_
  refine va_sld (A := nA s) hx hb hX hbl hbA hH.2.1 (vin 3 (by decide) hi hL) dL_law_596 ?_
  refine wk_callVi (ci := 6) (b := 41) (As := [.int (xs (nI i + 1).toNatClampNeg), .int (xs (nI i + 2).toNatClampNeg), .int (xs (nI i + 3).toNatClampNeg)]) (rest := [.int r]) S hK hN hH rfl (by decide) rfl (C_X7_tell l X hI rfl _ _ _ _ _ _ e2) (cwV 3 hts (gV tTl m_879 m_880 m_881 m_41 m_882) rfl rfl rfl hdV_X7_tell ⟨Nat.le_of_ble_eq_true rfl, Nat.le_of_ble_eq_true rfl⟩) hl.1 rfl rfl (Nat.le_of_ble_eq_true rfl) dL_law_597 ⟨Nat.le_of_ble_eq_true rfl, Nat.le_of_ble_eq_true rfl⟩ (fun H locs hH => ?_)
  refine lv_icmp_eq (tgt := 1067) hx hb dL_law_600 (by decide) (fun _ => ?_) (fun c1 => absurd rfl c1)
  exact nx H locs ls h2 hl hH hR2
set_option maxHeartbeats 4000000 in
set_option maxRecDepth 100000 in
theorem Lc_15 {p : Program} {l : Launch} {e : Env} {s : State} {m : MethodId} {below : List Frame} {meth : Method} {c : Code} {b L : Nat} {xs : Nat → Int32} {X : Cx} {fa : Nat} (G : LX p s m c b L xs X fa) {i : Nat} (hi : i + 5 ≤ L) (nx : LB p l e s m below meth c b X i 1067) : LB p l e s m below meth c b X i 605 := by
  obtain ⟨S, hK, hN, hX, hbl, hF, hL⟩ := G
  obtain ⟨hx, hb, hml, hown, hts⟩ := id S
  have hbA : ¬ nA s b := fun z => by have z : s.heap.size ≤ b := z; omega
  intro H locs ls h hl hH hR
  have hI := hH.2.2.1
  refine lv_aload_n hx hb dL_law_605 rfl (lv_at hl 1 rfl) ?_
  obtain ⟨r, h1, h2, e1, e2, hR2⟩ := st_undo hR
  refine wk_callVi (ci := 5) (b := 0) (As := []) (rest := []) S hK hN hH rfl (by decide) rfl (C_X6_undo l X hI rfl _ _ _ e1) (cwV 0 hts (gV tTl m_474 m_475 m_476 m_35 m_477) rfl rfl rfl hdV_X6_undo ⟨Nat.le_of_ble_eq_true rfl, Nat.le_of_ble_eq_true rfl⟩) hl.1 rfl rfl (Nat.le_of_ble_eq_true rfl) dL_law_606 ⟨Nat.le_of_ble_eq_true rfl, Nat.le_of_ble_eq_true rfl⟩ (fun H locs hH => ?_)
  refine lv_aload_n hx hb dL_law_609 rfl (lv_at hl 2 rfl) ?_
  refine wk_callVi (ci := 6) (b := 41) (As := []) (rest := [.int r]) S hK hN hH rfl (by decide) rfl (C_X7_undo l X hI rfl _ _ _ e2) (cwV 0 hts (gV tTl m_883 m_884 m_885 m_41 m_886) rfl rfl rfl hdV_X7_undo ⟨Nat.le_of_ble_eq_true rfl, Nat.le_of_ble_eq_true rfl⟩) hl.1 rfl rfl (Nat.le_of_ble_eq_true rfl) dL_law_610 ⟨Nat.le_of_ble_eq_true rfl, Nat.le_of_ble_eq_true rfl⟩ (fun H locs hH => ?_)
  refine lv_icmp_eq (tgt := 1067) hx hb dL_law_613 (by decide) (fun _ => ?_) (fun c1 => absurd rfl c1)
  exact nx H locs ls h2 hl hH hR2
set_option maxHeartbeats 4000000 in
set_option maxRecDepth 100000 in
theorem Lc_16 {p : Program} {l : Launch} {e : Env} {s : State} {m : MethodId} {below : List Frame} {meth : Method} {c : Code} {b L : Nat} {xs : Nat → Int32} {X : Cx} {fa : Nat} (G : LX p s m c b L xs X fa) {i : Nat} (hi : i + 5 ≤ L) (nx : LB p l e s m below meth c b X i 1067) : LB p l e s m below meth c b X i 618 := by
  obtain ⟨S, hK, hN, hX, hbl, hF, hL⟩ := G
  obtain ⟨hx, hb, hml, hown, hts⟩ := id S
  have hbA : ¬ nA s b := fun z => by have z : s.heap.size ≤ b := z; omega
  intro H locs ls h hl hH hR
  have hI := hH.2.2.1
  refine lv_aload_n hx hb dL_law_618 rfl (lv_at hl 1 rfl) ?_
  refine lv_aload_n hx hb dL_law_619 rfl (lv_at hl 0 rfl) ?_
  refine lv_iload_n hx hb dL_law_620 rfl (lv_at hl 3 rfl) ?_
  refine lv_iconst (v := 1) hx hb dL_law_621 (by decide) ?_
  refine lv_iadd hx hb dL_law_622 ?_
  refine va_sld (A := nA s) hx hb hX hbl hbA hH.2.1 (vin 1 (by decide) hi hL) dL_law_623 ?_
  refine lv_aload_n hx hb dL_law_624 rfl (lv_at hl 0 rfl) ?_
  refine lv_iload_n hx hb dL_law_625 rfl (lv_at hl 3 rfl) ?_
  refine lv_iconst (v := 2) hx hb dL_law_626 (by decide) ?_
  refine lv_iadd hx hb dL_law_627 ?_
  refine va_sld (A := nA s) hx hb hX hbl hbA hH.2.1 (vin 2 (by decide) hi hL) dL_law_628 ?_
  obtain ⟨r, h1, h2, e1, e2, hR2⟩ := st_cross hR ((xs (nI i + 1).toNatClampNeg)) ((xs (nI i + 2).toNatClampNeg))
  refine wk_callVi (ci := 5) (b := 0) (As := [.int (xs (nI i + 1).toNatClampNeg), .int (xs (nI i + 2).toNatClampNeg)]) (rest := []) S hK hN hH rfl (by decide) rfl (C_X6_cross l X hI rfl _ _ _ _ _ e1) (cwV 2 hts (gV tTl m_485 m_486 m_487 m_35 m_488) rfl rfl rfl hdV_X6_cross ⟨Nat.le_of_ble_eq_true rfl, Nat.le_of_ble_eq_true rfl⟩) hl.1 rfl rfl (Nat.le_of_ble_eq_true rfl) dL_law_629 ⟨Nat.le_of_ble_eq_true rfl, Nat.le_of_ble_eq_true rfl⟩ (fun H locs hH => ?_)
  refine lv_aload_n hx hb dL_law_632 rfl (lv_at hl 2 rfl) ?_
  refine lv_aload_n hx hb dL_law_633 rfl (lv_at hl 0 rfl) ?_
  refine lv_iload_n hx hb dL_law_634 rfl (lv_at hl 3 rfl) ?_
  refine lv_iconst (v := 1) hx hb dL_law_635 (by decide) ?_
  refine lv_iadd hx hb dL_law_636 ?_
  refine va_sld (A := nA s) hx hb hX hbl hbA hH.2.1 (vin 1 (by decide) hi hL) dL_law_637 ?_
  refine lv_aload_n hx hb dL_law_638 rfl (lv_at hl 0 rfl) ?_
  refine lv_iload_n hx hb dL_law_639 rfl (lv_at hl 3 rfl) ?_
  refine lv_iconst (v := 2) hx hb dL_law_640 (by decide) ?_
  refine lv_iadd hx hb dL_law_641 ?_
  refine va_sld (A := nA s) hx hb hX hbl hbA hH.2.1 (vin 2 (by decide) hi hL) dL_law_642 ?_
  refine wk_callVi (ci := 6) (b := 41) (As := [.int (xs (nI i + 1).toNatClampNeg), .int (xs (nI i + 2).toNatClampNeg)]) (rest := [.int r]) S hK hN hH rfl (by decide) rfl (C_X7_cross l X hI rfl _ _ _ _ _ e2) (cwV 2 hts (gV tTl m_887 m_888 m_889 m_41 m_890) rfl rfl rfl hdV_X7_cross ⟨Nat.le_of_ble_eq_true rfl, Nat.le_of_ble_eq_true rfl⟩) hl.1 rfl rfl (Nat.le_of_ble_eq_true rfl) dL_law_643 ⟨Nat.le_of_ble_eq_true rfl, Nat.le_of_ble_eq_true rfl⟩ (fun H locs hH => ?_)
  refine lv_icmp_eq (tgt := 1067) hx hb dL_law_646 (by decide) (fun _ => ?_) (fun c1 => absurd rfl c1)
  exact nx H locs ls h2 hl hH hR2
set_option maxHeartbeats 4000000 in
set_option maxRecDepth 100000 in
theorem Lc_17 {p : Program} {l : Launch} {e : Env} {s : State} {m : MethodId} {below : List Frame} {meth : Method} {c : Code} {b L : Nat} {xs : Nat → Int32} {X : Cx} {fa : Nat} (G : LX p s m c b L xs X fa) {i : Nat} (hi : i + 5 ≤ L) (nx : LB p l e s m below meth c b X i 1067) : LB p l e s m below meth c b X i 651 := by
  obtain ⟨S, hK, hN, hX, hbl, hF, hL⟩ := G
  obtain ⟨hx, hb, hml, hown, hts⟩ := id S
  have hbA : ¬ nA s b := fun z => by have z : s.heap.size ≤ b := z; omega
  intro H locs ls h hl hH hR
  have hI := hH.2.2.1
  refine lv_aload_n hx hb dL_law_651 rfl (lv_at hl 1 rfl) ?_
  refine lv_aload_n hx hb dL_law_652 rfl (lv_at hl 0 rfl) ?_
  refine lv_iload_n hx hb dL_law_653 rfl (lv_at hl 3 rfl) ?_
  refine lv_iconst (v := 1) hx hb dL_law_654 (by decide) ?_
  refine lv_iadd hx hb dL_law_655 ?_
  refine va_sld (A := nA s) hx hb hX hbl hbA hH.2.1 (vin 1 (by decide) hi hL) dL_law_656 ?_
  obtain ⟨r, h1, h2, e1, e2, hR2⟩ := st_best hR ((xs (nI i + 1).toNatClampNeg))
  refine wk_callVi (ci := 5) (b := 0) (As := [.int (xs (nI i + 1).toNatClampNeg)]) (rest := []) S hK hN hH rfl (by decide) rfl (C_X6_best l X hI rfl _ _ _ _ e1) (cwV 1 hts (gV tTl m_493 m_494 m_495 m_35 m_496) rfl rfl rfl hdV_X6_best ⟨Nat.le_of_ble_eq_true rfl, Nat.le_of_ble_eq_true rfl⟩) hl.1 rfl rfl (Nat.le_of_ble_eq_true rfl) dL_law_657 ⟨Nat.le_of_ble_eq_true rfl, Nat.le_of_ble_eq_true rfl⟩ (fun H locs hH => ?_)
  refine lv_aload_n hx hb dL_law_660 rfl (lv_at hl 2 rfl) ?_
  refine lv_aload_n hx hb dL_law_661 rfl (lv_at hl 0 rfl) ?_
  refine lv_iload_n hx hb dL_law_662 rfl (lv_at hl 3 rfl) ?_
  refine lv_iconst (v := 1) hx hb dL_law_663 (by decide) ?_
  refine lv_iadd hx hb dL_law_664 ?_
  refine va_sld (A := nA s) hx hb hX hbl hbA hH.2.1 (vin 1 (by decide) hi hL) dL_law_665 ?_
  refine wk_callVi (ci := 6) (b := 41) (As := [.int (xs (nI i + 1).toNatClampNeg)]) (rest := [.int r]) S hK hN hH rfl (by decide) rfl (C_X7_best l X hI rfl _ _ _ _ e2) (cwV 1 hts (gV tTl m_895 m_896 m_897 m_41 m_898) rfl rfl rfl hdV_X7_best ⟨Nat.le_of_ble_eq_true rfl, Nat.le_of_ble_eq_true rfl⟩) hl.1 rfl rfl (Nat.le_of_ble_eq_true rfl) dL_law_666 ⟨Nat.le_of_ble_eq_true rfl, Nat.le_of_ble_eq_true rfl⟩ (fun H locs hH => ?_)
  refine lv_icmp_eq (tgt := 1067) hx hb dL_law_669 (by decide) (fun _ => ?_) (fun c1 => absurd rfl c1)
  exact nx H locs ls h2 hl hH hR2
set_option maxHeartbeats 4000000 in
set_option maxRecDepth 100000 in
theorem Lc_18 {p : Program} {l : Launch} {e : Env} {s : State} {m : MethodId} {below : List Frame} {meth : Method} {c : Code} {b L : Nat} {xs : Nat → Int32} {X : Cx} {fa : Nat} (G : LX p s m c b L xs X fa) {i : Nat} (hi : i + 5 ≤ L) (nx : LB p l e s m below meth c b X i 1067) : LB p l e s m below meth c b X i 674 := by
  obtain ⟨S, hK, hN, hX, hbl, hF, hL⟩ := G
  obtain ⟨hx, hb, hml, hown, hts⟩ := id S
  have hbA : ¬ nA s b := fun z => by have z : s.heap.size ≤ b := z; omega
  intro H locs ls h hl hH hR
  have hI := hH.2.2.1
  refine lv_aload_n hx hb dL_law_674 rfl (lv_at hl 1 rfl) ?_
  refine lv_aload_n hx hb dL_law_675 rfl (lv_at hl 0 rfl) ?_
  refine lv_iload_n hx hb dL_law_676 rfl (lv_at hl 3 rfl) ?_
  refine lv_iconst (v := 1) hx hb dL_law_677 (by decide) ?_
  refine lv_iadd hx hb dL_law_678 ?_
  refine va_sld (A := nA s) hx hb hX hbl hbA hH.2.1 (vin 1 (by decide) hi hL) dL_law_679 ?_
  refine lv_aload_n hx hb dL_law_680 rfl (lv_at hl 0 rfl) ?_
  refine lv_iload_n hx hb dL_law_681 rfl (lv_at hl 3 rfl) ?_
  refine lv_iconst (v := 2) hx hb dL_law_682 (by decide) ?_
  refine lv_iadd hx hb dL_law_683 ?_
  refine va_sld (A := nA s) hx hb hX hbl hbA hH.2.1 (vin 2 (by decide) hi hL) dL_law_684 ?_
  refine lv_i2l hx hb dL_law_685 rfl ?_
  refine lv_bipush (v := 32) hx hb dL_law_686 (by decide) ?_
  refine lv_lshl (v := (((xs (nI i + 2).toNatClampNeg)).toInt64) <<< ((32 : Int32).toInt64 &&& 63)) hx hb dL_law_688 rfl ?_
  refine lv_aload_n hx hb dL_law_689 rfl (lv_at hl 0 rfl) ?_
  refine lv_iload_n hx hb dL_law_690 rfl (lv_at hl 3 rfl) ?_
  refine lv_iconst (v := 3) hx hb dL_law_691 (by decide) ?_
  refine lv_iadd hx hb dL_law_692 ?_
  refine va_sld (A := nA s) hx hb hX hbl hbA hH.2.1 (vin 3 (by decide) hi hL) dL_law_693 ?_
  refine lv_i2l hx hb dL_law_694 rfl ?_
  refine lv_ldc2 hx hb hown (hts _ (tT_tbl m_988)) dL_law_695 ?_
  refine lv_land hx hb dL_law_698 ?_
  refine lv_lor hx hb dL_law_699 ?_
  obtain ⟨r, h1, h2, e1, e2, hR2⟩ := st_judge hR ((xs (nI i + 1).toNatClampNeg)) ((((((xs (nI i + 2).toNatClampNeg)).toInt64) <<< ((32 : Int32).toInt64 &&& 63)) ||| (((xs (nI i + 3).toNatClampNeg)).toInt64 &&& (4294967295 : Int64))))
  refine wk_callVi (ci := 5) (b := 0) (As := [.int (xs (nI i + 1).toNatClampNeg), .long (((((xs (nI i + 2).toNatClampNeg)).toInt64) <<< ((32 : Int32).toInt64 &&& 63)) ||| (((xs (nI i + 3).toNatClampNeg)).toInt64 &&& (4294967295 : Int64)))]) (rest := []) S hK hN hH rfl (by decide) rfl (C_X6_judge l X hI rfl _ _ _ _ _ e1) (cwV 2 hts (gV tTl m_511 m_512 m_513 m_35 m_514) rfl rfl rfl hdV_X6_judge ⟨Nat.le_of_ble_eq_true rfl, Nat.le_of_ble_eq_true rfl⟩) hl.1 rfl rfl (Nat.le_of_ble_eq_true rfl) dL_law_700 ⟨Nat.le_of_ble_eq_true rfl, Nat.le_of_ble_eq_true rfl⟩ (fun H locs hH => ?_)
  refine lv_aload_n hx hb dL_law_703 rfl (lv_at hl 2 rfl) ?_
  refine lv_aload_n hx hb dL_law_704 rfl (lv_at hl 0 rfl) ?_
  refine lv_iload_n hx hb dL_law_705 rfl (lv_at hl 3 rfl) ?_
  refine lv_iconst (v := 1) hx hb dL_law_706 (by decide) ?_
  refine lv_iadd hx hb dL_law_707 ?_
  refine va_sld (A := nA s) hx hb hX hbl hbA hH.2.1 (vin 1 (by decide) hi hL) dL_law_708 ?_
  refine lv_aload_n hx hb dL_law_709 rfl (lv_at hl 0 rfl) ?_
  refine lv_iload_n hx hb dL_law_710 rfl (lv_at hl 3 rfl) ?_
  refine lv_iconst (v := 2) hx hb dL_law_711 (by decide) ?_
  refine lv_iadd hx hb dL_law_712 ?_
  refine va_sld (A := nA s) hx hb hX hbl hbA hH.2.1 (vin 2 (by decide) hi hL) dL_law_713 ?_
  refine lv_i2l hx hb dL_law_714 rfl ?_
  refine lv_bipush (v := 32) hx hb dL_law_715 (by decide) ?_
  refine lv_lshl (v := (((xs (nI i + 2).toNatClampNeg)).toInt64) <<< ((32 : Int32).toInt64 &&& 63)) hx hb dL_law_717 rfl ?_
  refine lv_aload_n hx hb dL_law_718 rfl (lv_at hl 0 rfl) ?_
  refine lv_iload_n hx hb dL_law_719 rfl (lv_at hl 3 rfl) ?_
  refine lv_iconst (v := 3) hx hb dL_law_720 (by decide) ?_
  refine lv_iadd hx hb dL_law_721 ?_
  refine va_sld (A := nA s) hx hb hX hbl hbA hH.2.1 (vin 3 (by decide) hi hL) dL_law_722 ?_
  refine lv_i2l hx hb dL_law_723 rfl ?_
  refine lv_ldc2 hx hb hown (hts _ (tT_tbl m_988)) dL_law_724 ?_
  refine lv_land hx hb dL_law_727 ?_
  refine lv_lor hx hb dL_law_728 ?_
  refine wk_callVi (ci := 6) (b := 41) (As := [.int (xs (nI i + 1).toNatClampNeg), .long (((((xs (nI i + 2).toNatClampNeg)).toInt64) <<< ((32 : Int32).toInt64 &&& 63)) ||| (((xs (nI i + 3).toNatClampNeg)).toInt64 &&& (4294967295 : Int64)))]) (rest := [.int r]) S hK hN hH rfl (by decide) rfl (C_X7_judge l X hI rfl _ _ _ _ _ e2) (cwV 2 hts (gV tTl m_916 m_917 m_918 m_41 m_919) rfl rfl rfl hdV_X7_judge ⟨Nat.le_of_ble_eq_true rfl, Nat.le_of_ble_eq_true rfl⟩) hl.1 rfl rfl (Nat.le_of_ble_eq_true rfl) dL_law_729 ⟨Nat.le_of_ble_eq_true rfl, Nat.le_of_ble_eq_true rfl⟩ (fun H locs hH => ?_)
  refine lv_icmp_eq (tgt := 1067) hx hb dL_law_732 (by decide) (fun _ => ?_) (fun c1 => absurd rfl c1)
  exact nx H locs ls h2 hl hH hR2
set_option maxHeartbeats 4000000 in
set_option maxRecDepth 100000 in
theorem Lc_19 {p : Program} {l : Launch} {e : Env} {s : State} {m : MethodId} {below : List Frame} {meth : Method} {c : Code} {b L : Nat} {xs : Nat → Int32} {X : Cx} {fa : Nat} (G : LX p s m c b L xs X fa) {i : Nat} (hi : i + 5 ≤ L) (nx : LB p l e s m below meth c b X i 1067) : LB p l e s m below meth c b X i 737 := by
  obtain ⟨S, hK, hN, hX, hbl, hF, hL⟩ := G
  obtain ⟨hx, hb, hml, hown, hts⟩ := id S
  have hbA : ¬ nA s b := fun z => by have z : s.heap.size ≤ b := z; omega
  intro H locs ls h hl hH hR
  have hI := hH.2.2.1
  by_cases zq : xs (nI i + 2).toNatClampNeg = 0
  · refine lv_aload_n hx hb dL_law_737 rfl (lv_at hl 1 rfl) ?_
    refine lv_aload_n hx hb dL_law_738 rfl (lv_at hl 0 rfl) ?_
    refine lv_iload_n hx hb dL_law_739 rfl (lv_at hl 3 rfl) ?_
    refine lv_iconst (v := 1) hx hb dL_law_740 (by decide) ?_
    refine lv_iadd hx hb dL_law_741 ?_
    refine va_sld (A := nA s) hx hb hX hbl hbA hH.2.1 (vin 1 (by decide) hi hL) dL_law_742 ?_
    refine lv_aload_n hx hb dL_law_743 rfl (lv_at hl 0 rfl) ?_
    refine lv_iload_n hx hb dL_law_744 rfl (lv_at hl 3 rfl) ?_
    refine lv_iconst (v := 2) hx hb dL_law_745 (by decide) ?_
    refine lv_iadd hx hb dL_law_746 ?_
    refine va_sld (A := nA s) hx hb hX hbl hbA hH.2.1 (vin 2 (by decide) hi hL) dL_law_747 ?_
    refine lv_if_eq (tgt := 755) hx hb dL_law_748 (by decide) (fun _ => ?_) (fun c1 => absurd zq c1)
    refine lv_iconst (v := 0) hx hb dL_law_755 (by decide) ?_
    obtain ⟨r, h1, h2, e1, e2, hR2⟩ := st_share hR ((xs (nI i + 1).toNatClampNeg)) (0)
    refine wk_callF (ci := 5) (b := 0) (As := [.int (xs (nI i + 1).toNatClampNeg), .int 0]) (rest := []) S hK hN hH hF rfl (by decide) rfl (C_X6_share l X hI fa rfl _ _ _ _ _ e1) (cwV 2 hts (gV tTl m_534 m_535 m_536 m_35 m_537) rfl rfl rfl hdV_X6_share ⟨Nat.le_of_ble_eq_true rfl, Nat.le_of_ble_eq_true rfl⟩) hl.1 rfl rfl (Nat.le_of_ble_eq_true rfl) dL_law_756 ⟨Nat.le_of_ble_eq_true rfl, Nat.le_of_ble_eq_true rfl⟩ (fun H locs hH => ?_)
    refine lv_aload_n hx hb dL_law_759 rfl (lv_at hl 2 rfl) ?_
    refine lv_aload_n hx hb dL_law_760 rfl (lv_at hl 0 rfl) ?_
    refine lv_iload_n hx hb dL_law_761 rfl (lv_at hl 3 rfl) ?_
    refine lv_iconst (v := 1) hx hb dL_law_762 (by decide) ?_
    refine lv_iadd hx hb dL_law_763 ?_
    refine va_sld (A := nA s) hx hb hX hbl hbA hH.2.1 (vin 1 (by decide) hi hL) dL_law_764 ?_
    refine lv_aload_n hx hb dL_law_765 rfl (lv_at hl 0 rfl) ?_
    refine lv_iload_n hx hb dL_law_766 rfl (lv_at hl 3 rfl) ?_
    refine lv_iconst (v := 2) hx hb dL_law_767 (by decide) ?_
    refine lv_iadd hx hb dL_law_768 ?_
    refine va_sld (A := nA s) hx hb hX hbl hbA hH.2.1 (vin 2 (by decide) hi hL) dL_law_769 ?_
    refine lv_if_eq (tgt := 777) hx hb dL_law_770 (by decide) (fun _ => ?_) (fun c1 => absurd zq c1)
    refine lv_iconst (v := 0) hx hb dL_law_777 (by decide) ?_
    refine wk_callVi (ci := 6) (b := 41) (As := [.int (xs (nI i + 1).toNatClampNeg), .int 0]) (rest := [.int r]) S hK hN hH rfl (by decide) rfl (C_X7_share l X hI rfl _ _ _ _ _ e2) (cwV 2 hts (gV tTl m_929 m_930 m_931 m_41 m_932) rfl rfl rfl hdV_X7_share ⟨Nat.le_of_ble_eq_true rfl, Nat.le_of_ble_eq_true rfl⟩) hl.1 rfl rfl (Nat.le_of_ble_eq_true rfl) dL_law_778 ⟨Nat.le_of_ble_eq_true rfl, Nat.le_of_ble_eq_true rfl⟩ (fun H locs hH => ?_)
    refine lv_icmp_eq (tgt := 1067) hx hb dL_law_781 (by decide) (fun _ => ?_) (fun c1 => absurd rfl c1)
    exact nx H locs ls h2 hl hH hR2
  · refine lv_aload_n hx hb dL_law_737 rfl (lv_at hl 1 rfl) ?_
    refine lv_aload_n hx hb dL_law_738 rfl (lv_at hl 0 rfl) ?_
    refine lv_iload_n hx hb dL_law_739 rfl (lv_at hl 3 rfl) ?_
    refine lv_iconst (v := 1) hx hb dL_law_740 (by decide) ?_
    refine lv_iadd hx hb dL_law_741 ?_
    refine va_sld (A := nA s) hx hb hX hbl hbA hH.2.1 (vin 1 (by decide) hi hL) dL_law_742 ?_
    refine lv_aload_n hx hb dL_law_743 rfl (lv_at hl 0 rfl) ?_
    refine lv_iload_n hx hb dL_law_744 rfl (lv_at hl 3 rfl) ?_
    refine lv_iconst (v := 2) hx hb dL_law_745 (by decide) ?_
    refine lv_iadd hx hb dL_law_746 ?_
    refine va_sld (A := nA s) hx hb hX hbl hbA hH.2.1 (vin 2 (by decide) hi hL) dL_law_747 ?_
    refine lv_if_eq (tgt := 755) hx hb dL_law_748 (by decide) (fun c1 => absurd c1 zq) (fun _ => ?_)
    refine lv_iconst (v := 1) hx hb dL_law_751 (by decide) ?_
    refine lv_goto (tgt := 756) hx hb dL_law_752 (by decide) ?_
    obtain ⟨r, h1, h2, e1, e2, hR2⟩ := st_share hR ((xs (nI i + 1).toNatClampNeg)) (1)
    refine wk_callF (ci := 5) (b := 0) (As := [.int (xs (nI i + 1).toNatClampNeg), .int 1]) (rest := []) S hK hN hH hF rfl (by decide) rfl (C_X6_share l X hI fa rfl _ _ _ _ _ e1) (cwV 2 hts (gV tTl m_534 m_535 m_536 m_35 m_537) rfl rfl rfl hdV_X6_share ⟨Nat.le_of_ble_eq_true rfl, Nat.le_of_ble_eq_true rfl⟩) hl.1 rfl rfl (Nat.le_of_ble_eq_true rfl) dL_law_756 ⟨Nat.le_of_ble_eq_true rfl, Nat.le_of_ble_eq_true rfl⟩ (fun H locs hH => ?_)
    refine lv_aload_n hx hb dL_law_759 rfl (lv_at hl 2 rfl) ?_
    refine lv_aload_n hx hb dL_law_760 rfl (lv_at hl 0 rfl) ?_
    refine lv_iload_n hx hb dL_law_761 rfl (lv_at hl 3 rfl) ?_
    refine lv_iconst (v := 1) hx hb dL_law_762 (by decide) ?_
    refine lv_iadd hx hb dL_law_763 ?_
    refine va_sld (A := nA s) hx hb hX hbl hbA hH.2.1 (vin 1 (by decide) hi hL) dL_law_764 ?_
    refine lv_aload_n hx hb dL_law_765 rfl (lv_at hl 0 rfl) ?_
    refine lv_iload_n hx hb dL_law_766 rfl (lv_at hl 3 rfl) ?_
    refine lv_iconst (v := 2) hx hb dL_law_767 (by decide) ?_
    refine lv_iadd hx hb dL_law_768 ?_
    refine va_sld (A := nA s) hx hb hX hbl hbA hH.2.1 (vin 2 (by decide) hi hL) dL_law_769 ?_
    refine lv_if_eq (tgt := 777) hx hb dL_law_770 (by decide) (fun c1 => absurd c1 zq) (fun _ => ?_)
    refine lv_iconst (v := 1) hx hb dL_law_773 (by decide) ?_
    refine lv_goto (tgt := 778) hx hb dL_law_774 (by decide) ?_
    refine wk_callVi (ci := 6) (b := 41) (As := [.int (xs (nI i + 1).toNatClampNeg), .int 1]) (rest := [.int r]) S hK hN hH rfl (by decide) rfl (C_X7_share l X hI rfl _ _ _ _ _ e2) (cwV 2 hts (gV tTl m_929 m_930 m_931 m_41 m_932) rfl rfl rfl hdV_X7_share ⟨Nat.le_of_ble_eq_true rfl, Nat.le_of_ble_eq_true rfl⟩) hl.1 rfl rfl (Nat.le_of_ble_eq_true rfl) dL_law_778 ⟨Nat.le_of_ble_eq_true rfl, Nat.le_of_ble_eq_true rfl⟩ (fun H locs hH => ?_)
    refine lv_icmp_eq (tgt := 1067) hx hb dL_law_781 (by decide) (fun _ => ?_) (fun c1 => absurd rfl c1)
    exact nx H locs ls h2 hl hH hR2
set_option maxHeartbeats 4000000 in
set_option maxRecDepth 100000 in
theorem Lc_20 {p : Program} {l : Launch} {e : Env} {s : State} {m : MethodId} {below : List Frame} {meth : Method} {c : Code} {b L : Nat} {xs : Nat → Int32} {X : Cx} {fa : Nat} (G : LX p s m c b L xs X fa) {i : Nat} (hi : i + 5 ≤ L) (nx : LB p l e s m below meth c b X i 1067) : LB p l e s m below meth c b X i 786 := by
  obtain ⟨S, hK, hN, hX, hbl, hF, hL⟩ := G
  obtain ⟨hx, hb, hml, hown, hts⟩ := id S
  have hbA : ¬ nA s b := fun z => by have z : s.heap.size ≤ b := z; omega
  intro H locs ls h hl hH hR
  have hI := hH.2.2.1
  refine lv_aload_n hx hb dL_law_786 rfl (lv_at hl 1 rfl) ?_
  refine lv_aload_n hx hb dL_law_787 rfl (lv_at hl 0 rfl) ?_
  refine lv_iload_n hx hb dL_law_788 rfl (lv_at hl 3 rfl) ?_
  refine lv_iconst (v := 1) hx hb dL_law_789 (by decide) ?_
  refine lv_iadd hx hb dL_law_790 ?_
  refine va_sld (A := nA s) hx hb hX hbl hbA hH.2.1 (vin 1 (by decide) hi hL) dL_law_791 ?_
  refine lv_aload_n hx hb dL_law_792 rfl (lv_at hl 0 rfl) ?_
  refine lv_iload_n hx hb dL_law_793 rfl (lv_at hl 3 rfl) ?_
  refine lv_iconst (v := 2) hx hb dL_law_794 (by decide) ?_
  refine lv_iadd hx hb dL_law_795 ?_
  refine va_sld (A := nA s) hx hb hX hbl hbA hH.2.1 (vin 2 (by decide) hi hL) dL_law_796 ?_
  refine lv_aload_n hx hb dL_law_797 rfl (lv_at hl 0 rfl) ?_
  refine lv_iload_n hx hb dL_law_798 rfl (lv_at hl 3 rfl) ?_
  refine lv_iconst (v := 3) hx hb dL_law_799 (by decide) ?_
  refine lv_iadd hx hb dL_law_800 ?_
  refine va_sld (A := nA s) hx hb hX hbl hbA hH.2.1 (vin 3 (by decide) hi hL) dL_law_801 ?_
  refine lv_aload_n hx hb dL_law_802 rfl (lv_at hl 0 rfl) ?_
  refine lv_iload_n hx hb dL_law_803 rfl (lv_at hl 3 rfl) ?_
  refine lv_iconst (v := 4) hx hb dL_law_804 (by decide) ?_
  refine lv_iadd hx hb dL_law_805 ?_
  refine va_sld (A := nA s) hx hb hX hbl hbA hH.2.1 (vin 4 (by decide) hi hL) dL_law_806 ?_
  obtain ⟨r, h1, h2, e1, e2, hR2⟩ := st_see hR ((xs (nI i + 1).toNatClampNeg)) ((xs (nI i + 2).toNatClampNeg)) ((xs (nI i + 3).toNatClampNeg)) ((xs (nI i + 4).toNatClampNeg))
  refine wk_callVi (ci := 5) (b := 0) (As := [.int (xs (nI i + 1).toNatClampNeg), .int (xs (nI i + 2).toNatClampNeg), .int (xs (nI i + 3).toNatClampNeg), .int (xs (nI i + 4).toNatClampNeg)]) (rest := []) S hK hN hH rfl (by decide) rfl (C_X6_see l X hI rfl _ _ _ _ _ _ _ e1) (cwV 4 hts (gV tTl m_555 m_556 m_557 m_35 m_558) rfl rfl rfl hdV_X6_see ⟨Nat.le_of_ble_eq_true rfl, Nat.le_of_ble_eq_true rfl⟩) hl.1 rfl rfl (Nat.le_of_ble_eq_true rfl) dL_law_807 ⟨Nat.le_of_ble_eq_true rfl, Nat.le_of_ble_eq_true rfl⟩ (fun H locs hH => ?_)
  refine lv_aload_n hx hb dL_law_810 rfl (lv_at hl 2 rfl) ?_
  refine lv_aload_n hx hb dL_law_811 rfl (lv_at hl 0 rfl) ?_
  refine lv_iload_n hx hb dL_law_812 rfl (lv_at hl 3 rfl) ?_
  refine lv_iconst (v := 1) hx hb dL_law_813 (by decide) ?_
  refine lv_iadd hx hb dL_law_814 ?_
  refine va_sld (A := nA s) hx hb hX hbl hbA hH.2.1 (vin 1 (by decide) hi hL) dL_law_815 ?_
  refine lv_aload_n hx hb dL_law_816 rfl (lv_at hl 0 rfl) ?_
  refine lv_iload_n hx hb dL_law_817 rfl (lv_at hl 3 rfl) ?_
  refine lv_iconst (v := 2) hx hb dL_law_818 (by decide) ?_
  refine lv_iadd hx hb dL_law_819 ?_
  refine va_sld (A := nA s) hx hb hX hbl hbA hH.2.1 (vin 2 (by decide) hi hL) dL_law_820 ?_
  refine lv_aload_n hx hb dL_law_821 rfl (lv_at hl 0 rfl) ?_
  refine lv_iload_n hx hb dL_law_822 rfl (lv_at hl 3 rfl) ?_
  refine lv_iconst (v := 3) hx hb dL_law_823 (by decide) ?_
  refine lv_iadd hx hb dL_law_824 ?_
  refine va_sld (A := nA s) hx hb hX hbl hbA hH.2.1 (vin 3 (by decide) hi hL) dL_law_825 ?_
  refine lv_aload_n hx hb dL_law_826 rfl (lv_at hl 0 rfl) ?_
  refine lv_iload_n hx hb dL_law_827 rfl (lv_at hl 3 rfl) ?_
  refine lv_iconst (v := 4) hx hb dL_law_828 (by decide) ?_
  refine lv_iadd hx hb dL_law_829 ?_
  refine va_sld (A := nA s) hx hb hX hbl hbA hH.2.1 (vin 4 (by decide) hi hL) dL_law_830 ?_
  refine wk_callVi (ci := 6) (b := 41) (As := [.int (xs (nI i + 1).toNatClampNeg), .int (xs (nI i + 2).toNatClampNeg), .int (xs (nI i + 3).toNatClampNeg), .int (xs (nI i + 4).toNatClampNeg)]) (rest := [.int r]) S hK hN hH rfl (by decide) rfl (C_X7_see l X hI rfl _ _ _ _ _ _ _ e2) (cwV 4 hts (gV tTl m_942 m_943 m_944 m_41 m_945) rfl rfl rfl hdV_X7_see ⟨Nat.le_of_ble_eq_true rfl, Nat.le_of_ble_eq_true rfl⟩) hl.1 rfl rfl (Nat.le_of_ble_eq_true rfl) dL_law_831 ⟨Nat.le_of_ble_eq_true rfl, Nat.le_of_ble_eq_true rfl⟩ (fun H locs hH => ?_)
  refine lv_icmp_eq (tgt := 1067) hx hb dL_law_834 (by decide) (fun _ => ?_) (fun c1 => absurd rfl c1)
  exact nx H locs ls h2 hl hH hR2
