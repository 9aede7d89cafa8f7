set_option maxHeartbeats 4000000 in
set_option maxRecDepth 100000 in
theorem C_X6_sign (l : Launch) (X : Cx) (hI : Inj X) {a0 : Nat} (t0 : tY a0 = 5) (a1 : Int32) (a2 : Int32) (h : Hp) (r0 : Int32) (h0 : Hp) (hf : f_X6_sign a0 a1 a2 h = some (r0, h0)) : Mi l X yX6_sign cX6_sign 3 (some .int) 1 22 h [.ref (X.2.2.2 a0), .int a1, .int a2] r0 h0 := by
  refine BD_of (own := RX6) hI rfl (by decide) (Nat.le_of_ble_eq_true rfl) ?_
  intro p e s m args below meth c S hr hlk hK hN
  obtain ⟨hx, hb, hml, hown, hts⟩ := id S
  intro H locs ls hl hH
  replace hl : lv_has ls 3 [(0, .ref (X.2.2.2 a0)), (1, .int a1), (2, .int a2)] := hl
  unfold f_X6_sign at hf
  refine lv_aload_n hx hb dX6_sign_0 rfl (lv_at hl 0 rfl) ?_
  refine wk_getr (ci := 5) (k := 2) S hK hH j_X6 t0 rfl hq_5_2 (hts _ (wU_in _ m_218)) dX6_sign_1 ?_
  refine lv_iload_n hx hb dX6_sign_4 rfl (lv_at hl 1 rfl) ?_
  obtain ⟨r3, h2, hq1, hf⟩ := bnd_ok hf
  refine wk_callVi (ci := 4) (b := (rF a0 2)) (As := [.int a1]) (rest := []) S hK hN hH (tr_5_2 t0) (by decide) rfl (C_X4_hasChange l X hI (tr_5_2 t0) a1 _ _ _ hq1) (cwV 1 hts (gV wU_in m_403 m_404 m_405 m_38 m_406) rfl rfl rfl hdV_X4_hasChange ⟨Nat.le_of_ble_eq_true rfl, Nat.le_of_ble_eq_true rfl⟩) hl.1 rfl rfl (Nat.le_of_ble_eq_true rfl) dX6_sign_5 ⟨Nat.zero_le _, Nat.zero_le _⟩ (fun H locs hH => ?_)
  refine lv_if_ne (tgt := 13) hx hb dX6_sign_8 (by decide) (fun c4 => ?_) (fun c4 => ?_)
  · replace hf := ite_f c4 hf
    refine lv_iload_n hx hb dX6_sign_13 rfl (lv_at hl 2 rfl) ?_
    obtain ⟨r7, h6, hq5, hf⟩ := bnd_ok hf
    refine wk_callSi (As := [.int a2]) (rest := []) S hK hN hH (C_X6_isSignPlace l X hI a2 _ _ _ hq5) (va_cwS 1 hts (gS wU_in m_407 m_408 m_35 m_409) rfl rfl rfl hdS_X6_isSignPlace ⟨Nat.le_of_ble_eq_true rfl, Nat.le_of_ble_eq_true rfl⟩) hl.1 rfl rfl (Nat.le_of_ble_eq_true rfl) dX6_sign_14 ⟨Nat.zero_le _, Nat.zero_le _⟩ (fun H locs hH => ?_)
    refine lv_if_eq (tgt := 32) hx hb dX6_sign_17 (by decide) (fun c8 => ?_) (fun c8 => ?_)
    · replace hf := ite_t c8 hf
      refine lv_bipush (v := (-2)) hx hb dX6_sign_32 (by decide) ?_
      exact wk_iret S hr hlk hK hN hH hf dX6_sign_34
    · replace hf := ite_f c8 hf
      refine lv_aload_n hx hb dX6_sign_20 rfl (lv_at hl 0 rfl) ?_
      refine wk_getr (ci := 5) (k := 2) S hK hH j_X6 t0 rfl hq_5_2 (hts _ (wU_in _ m_218)) dX6_sign_21 ?_
      refine lv_iload_n hx hb dX6_sign_24 rfl (lv_at hl 1 rfl) ?_
      refine lv_iload_n hx hb dX6_sign_25 rfl (lv_at hl 2 rfl) ?_
      obtain ⟨r11, h10, hq9, hf⟩ := bnd_ok hf
      refine wk_callVi (ci := 4) (b := (rF a0 2)) (As := [.int a1, .int a2]) (rest := []) S hK hN hH (tr_5_2 t0) (by decide) rfl (C_X4_signOf l X hI (tr_5_2 t0) a1 a2 _ _ _ hq9) (cwV 2 hts (gV wU_in m_410 m_349 m_350 m_38 m_351) rfl rfl rfl hdV_X4_signOf ⟨Nat.le_of_ble_eq_true rfl, Nat.le_of_ble_eq_true rfl⟩) hl.1 rfl rfl (Nat.le_of_ble_eq_true rfl) dX6_sign_26 ⟨Nat.zero_le _, Nat.zero_le _⟩ (fun H locs hH => ?_)
      refine lv_goto (tgt := 34) hx hb dX6_sign_29 (by decide) ?_
      exact wk_iret S hr hlk hK hN hH hf dX6_sign_34
  · replace hf := ite_t c4 hf
    refine lv_iconst (v := (-1)) hx hb dX6_sign_11 (by decide) ?_
    exact wk_iret S hr hlk hK hN hH hf dX6_sign_12
set_option maxHeartbeats 4000000 in
set_option maxRecDepth 100000 in
theorem C_X6_order (l : Launch) (X : Cx) (hI : Inj X) {a0 : Nat} (t0 : tY a0 = 5) (a1 : Int32) (h : Hp) (r0 : Int32) (h0 : Hp) (hf : f_X6_order a0 a1 h = some (r0, h0)) : Mi l X yX6_order cX6_order 2 (some .int) 1 21 h [.ref (X.2.2.2 a0), .int a1] r0 h0 := by
  refine BD_of (own := RX6) hI rfl (by decide) (Nat.le_of_ble_eq_true rfl) ?_
  intro p e s m args below meth c S hr hlk hK hN
  obtain ⟨hx, hb, hml, hown, hts⟩ := id S
  intro H locs ls hl hH
  replace hl : lv_has ls 2 [(0, .ref (X.2.2.2 a0)), (1, .int a1)] := hl
  unfold f_X6_order at hf
  refine lv_aload_n hx hb dX6_order_0 rfl (lv_at hl 0 rfl) ?_
  refine wk_getr (ci := 5) (k := 2) S hK hH j_X6 t0 rfl hq_5_2 (hts _ (wU_in _ m_218)) dX6_order_1 ?_
  refine lv_iload_n hx hb dX6_order_4 rfl (lv_at hl 1 rfl) ?_
  obtain ⟨r3, h2, hq1, hf⟩ := bnd_ok hf
  refine wk_callVi (ci := 4) (b := (rF a0 2)) (As := [.int a1]) (rest := []) S hK hN hH (tr_5_2 t0) (by decide) rfl (C_X4_hasChange l X hI (tr_5_2 t0) a1 _ _ _ hq1) (cwV 1 hts (gV wU_in m_403 m_404 m_405 m_38 m_406) rfl rfl rfl hdV_X4_hasChange ⟨Nat.le_of_ble_eq_true rfl, Nat.le_of_ble_eq_true rfl⟩) hl.1 rfl rfl (Nat.le_of_ble_eq_true rfl) dX6_order_5 ⟨Nat.zero_le _, Nat.zero_le _⟩ (fun H locs hH => ?_)
  refine lv_if_eq (tgt := 23) hx hb dX6_order_8 (by decide) (fun c4 => ?_) (fun c4 => ?_)
  · replace hf := ite_t c4 hf
    refine lv_iconst (v := (-1)) hx hb dX6_order_23 (by decide) ?_
    exact wk_iret S hr hlk hK hN hH hf dX6_order_24
  · replace hf := ite_f c4 hf
    refine lv_aload_n hx hb dX6_order_11 rfl (lv_at hl 0 rfl) ?_
    refine wk_getr (ci := 5) (k := 2) S hK hH j_X6 t0 rfl hq_5_2 (hts _ (wU_in _ m_218)) dX6_order_12 ?_
    refine wk_getrN (ci := 4) (k := 2) S hK hH j_X4 (tr_5_2 t0) rfl hq_4_2 (hN _ n_146) dX6_order_15 ?_
    refine lv_iload_n hx hb dX6_order_18 rfl (lv_at hl 1 rfl) ?_
    obtain ⟨o5, hf⟩ := ite_ok hf
    refine wk_iald S hK hH (tr_4_2 (tr_5_2 t0)) o5 dX6_order_19 ?_
    refine lv_goto (tgt := 24) hx hb dX6_order_20 (by decide) ?_
    exact wk_iret S hr hlk hK hN hH hf dX6_order_24
set_option maxHeartbeats 4000000 in
set_option maxRecDepth 100000 in
theorem C_X6_made (l : Launch) (X : Cx) (hI : Inj X) {a0 : Nat} (t0 : tY a0 = 5) (a1 : Int32) (a2 : Int32) (h : Hp) (r0 : Int32) (h0 : Hp) (hf : f_X6_made a0 a1 a2 h = some (r0, h0)) : Mi l X yX6_made cX6_made 3 (some .int) 4 99 h [.ref (X.2.2.2 a0), .int a1, .int a2] r0 h0 := by
  refine BD_of (own := RX6) hI rfl (by decide) (Nat.le_of_ble_eq_true rfl) ?_
  intro p e s m args below meth c S hr hlk hK hN
  obtain ⟨hx, hb, hml, hown, hts⟩ := id S
  intro H locs ls hl hH
  replace hl : lv_has ls 3 [(0, .ref (X.2.2.2 a0)), (1, .int a1), (2, .int a2)] := hl
  unfold f_X6_made at hf
  refine lv_aload_n hx hb dX6_made_0 rfl (lv_at hl 0 rfl) ?_
  refine wk_getr (ci := 5) (k := 1) S hK hH j_X6 t0 rfl hq_5_1 (hts _ (wU_in _ m_217)) dX6_made_1 ?_
  refine lv_iload_n hx hb dX6_made_4 rfl (lv_at hl 1 rfl) ?_
  refine lv_iload_n hx hb dX6_made_5 rfl (lv_at hl 2 rfl) ?_
  obtain ⟨r3, h2, hq1, hf⟩ := bnd_ok hf
  refine wk_callVi (ci := 2) (b := (rF a0 1)) (As := [.int a1, .int a2]) (rest := []) S hK hN hH (tr_5_1 t0) (by decide) rfl (C_X2_hasPair l X hI (tr_5_1 t0) a1 a2 _ _ _ hq1) (cwV 2 hts (gV wU_in m_419 m_420 m_421 m_37 m_422) rfl rfl rfl hdV_X2_hasPair ⟨Nat.le_of_ble_eq_true rfl, Nat.le_of_ble_eq_true rfl⟩) hl.1 rfl rfl (Nat.le_of_ble_eq_true rfl) dX6_made_6 ⟨Nat.zero_le _, Nat.zero_le _⟩ (fun H locs hH => ?_)
  refine lv_if_eq (tgt := 24) hx hb dX6_made_9 (by decide) (fun c4 => ?_) (fun c4 => ?_)
  · replace hf := ite_t c4 hf
    refine lv_iconst (v := (-1)) hx hb dX6_made_24 (by decide) ?_
    exact wk_iret S hr hlk hK hN hH hf dX6_made_25
  · replace hf := ite_f c4 hf
    refine lv_aload_n hx hb dX6_made_12 rfl (lv_at hl 0 rfl) ?_
    refine wk_getr (ci := 5) (k := 2) S hK hH j_X6 t0 rfl hq_5_2 (hts _ (wU_in _ m_218)) dX6_made_13 ?_
    refine lv_iload_n hx hb dX6_made_16 rfl (lv_at hl 1 rfl) ?_
    refine lv_iload_n hx hb dX6_made_17 rfl (lv_at hl 2 rfl) ?_
    obtain ⟨r7, h6, hq5, hf⟩ := bnd_ok hf
    refine wk_callVi (ci := 4) (b := (rF a0 2)) (As := [.int a1, .int a2]) (rest := []) S hK hN hH (tr_5_2 t0) (by decide) rfl (C_X4_makeOf l X hI (tr_5_2 t0) a1 a2 _ _ _ hq5) (cwV 2 hts (gV wU_in m_425 m_376 m_377 m_38 m_378) rfl rfl rfl hdV_X4_makeOf ⟨Nat.le_of_ble_eq_true rfl, Nat.le_of_ble_eq_true rfl⟩) hl.1 rfl rfl (Nat.le_of_ble_eq_true rfl) dX6_made_18 ⟨Nat.zero_le _, Nat.zero_le _⟩ (fun H locs hH => ?_)
    refine lv_goto (tgt := 25) hx hb dX6_made_21 (by decide) ?_
    exact wk_iret S hr hlk hK hN hH hf dX6_made_25
set_option maxHeartbeats 4000000 in
set_option maxRecDepth 100000 in
theorem C_X6_step (l : Launch) (X : Cx) (hI : Inj X) {a0 : Nat} (t0 : tY a0 = 5) (a1 : Int32) (a2 : Int32) (a3 : Int32) (h : Hp) (r0 : Int32) (h0 : Hp) (hf : f_X6_step a0 a1 a2 a3 h = some (r0, h0)) : Mi l X yX6_step cX6_step 4 (some .int) 3 77 h [.ref (X.2.2.2 a0), .int a1, .int a2, .int a3] r0 h0 := by
  refine BD_of (own := RX6) hI rfl (by decide) (Nat.le_of_ble_eq_true rfl) ?_
  intro p e s m args below meth c S hr hlk hK hN
  obtain ⟨hx, hb, hml, hown, hts⟩ := id S
  intro H locs ls hl hH
  replace hl : lv_has ls 4 [(0, .ref (X.2.2.2 a0)), (1, .int a1), (2, .int a2), (3, .int a3)] := hl
  unfold f_X6_step at hf
  refine lv_aload_n hx hb dX6_step_0 rfl (lv_at hl 0 rfl) ?_
  refine wk_getr (ci := 5) (k := 1) S hK hH j_X6 t0 rfl hq_5_1 (hts _ (wU_in _ m_217)) dX6_step_1 ?_
  refine lv_iload_n hx hb dX6_step_4 rfl (lv_at hl 1 rfl) ?_
  refine lv_iload_n hx hb dX6_step_5 rfl (lv_at hl 2 rfl) ?_
  obtain ⟨r3, h2, hq1, hf⟩ := bnd_ok hf
  refine wk_callVi (ci := 2) (b := (rF a0 1)) (As := [.int a1, .int a2]) (rest := []) S hK hN hH (tr_5_1 t0) (by decide) rfl (C_X2_hasPair l X hI (tr_5_1 t0) a1 a2 _ _ _ hq1) (cwV 2 hts (gV wU_in m_419 m_420 m_421 m_37 m_422) rfl rfl rfl hdV_X2_hasPair ⟨Nat.le_of_ble_eq_true rfl, Nat.le_of_ble_eq_true rfl⟩) hl.1 rfl rfl (Nat.le_of_ble_eq_true rfl) dX6_step_6 ⟨Nat.zero_le _, Nat.zero_le _⟩ (fun H locs hH => ?_)
  refine lv_if_ne (tgt := 14) hx hb dX6_step_9 (by decide) (fun c4 => ?_) (fun c4 => ?_)
  · replace hf := ite_f c4 hf
    refine lv_iload_n hx hb dX6_step_14 rfl (lv_at hl 3 rfl) ?_
    refine lv_if_lt (tgt := 29) hx hb dX6_step_15 (by decide) (fun c5 => ?_) (fun c5 => ?_)
    · replace hf := ite_t c5 hf
      refine lv_bipush (v := (-2)) hx hb dX6_step_29 (by decide) ?_
      exact wk_iret S hr hlk hK hN hH hf dX6_step_31
    · replace hf := ite_f c5 hf
      refine lv_iload_n hx hb dX6_step_18 rfl (lv_at hl 3 rfl) ?_
      refine lv_aload_n hx hb dX6_step_19 rfl (lv_at hl 0 rfl) ?_
      refine wk_getr (ci := 5) (k := 2) S hK hH j_X6 t0 rfl hq_5_2 (hts _ (wU_in _ m_218)) dX6_step_20 ?_
      refine wk_getiN (ci := 4) (k := 5) S hK hH j_X4 (tr_5_2 t0) rfl hq_4_5 (hN _ n_151) dX6_step_23 ?_
      refine lv_icmp_le (tgt := 32) hx hb dX6_step_26 (by decide) (fun c6 => ?_) (fun c6 => ?_)
      · replace hf := ite_t c6 hf
        refine lv_aload_n hx hb dX6_step_32 rfl (lv_at hl 0 rfl) ?_
        refine wk_getr (ci := 5) (k := 2) S hK hH j_X6 t0 rfl hq_5_2 (hts _ (wU_in _ m_218)) dX6_step_33 ?_
        refine lv_aload_n hx hb dX6_step_36 rfl (lv_at hl 0 rfl) ?_
        refine wk_getr (ci := 5) (k := 1) S hK hH j_X6 t0 rfl hq_5_1 (hts _ (wU_in _ m_217)) dX6_step_37 ?_
        refine lv_iload_n hx hb dX6_step_40 rfl (lv_at hl 1 rfl) ?_
        refine lv_iload_n hx hb dX6_step_41 rfl (lv_at hl 2 rfl) ?_
        obtain ⟨r9, h8, hq7, hf⟩ := bnd_ok hf
        refine wk_callVi (ci := 2) (b := (rF a0 1)) (As := [.int a1, .int a2]) (rest := [.ref (X.2.2.2 (rF a0 2))]) S hK hN hH (tr_5_1 t0) (by decide) rfl (C_X2_joined l X hI (tr_5_1 t0) a1 a2 _ _ _ hq7) (cwV 2 hts (gV wU_in m_430 m_334 m_335 m_37 m_336) rfl rfl rfl hdV_X2_joined ⟨Nat.le_of_ble_eq_true rfl, Nat.le_of_ble_eq_true rfl⟩) hl.1 rfl rfl (Nat.le_of_ble_eq_true rfl) dX6_step_42 ⟨Nat.zero_le _, Nat.zero_le _⟩ (fun H locs hH => ?_)
        refine lv_iload_n hx hb dX6_step_45 rfl (lv_at hl 3 rfl) ?_
        obtain ⟨r12, h11, hq10, hf⟩ := bnd_ok hf
        refine wk_callVi (ci := 4) (b := (rF a0 2)) (As := [.int r9, .int a3]) (rest := []) S hK hN hH (tr_5_2 t0) (by decide) rfl (C_X4_walk l X hI (tr_5_2 t0) r9 a3 _ _ _ hq10) (cwV 2 hts (gV wU_in m_431 m_380 m_381 m_38 m_382) rfl rfl rfl hdV_X4_walk ⟨Nat.le_of_ble_eq_true rfl, Nat.le_of_ble_eq_true rfl⟩) hl.1 rfl rfl (Nat.le_of_ble_eq_true rfl) dX6_step_46 ⟨Nat.zero_le _, Nat.zero_le _⟩ (fun H locs hH => ?_)
        exact wk_iret S hr hlk hK hN hH hf dX6_step_49
      · replace hf := ite_f c6 hf
        refine lv_bipush (v := (-2)) hx hb dX6_step_29 (by decide) ?_
        exact wk_iret S hr hlk hK hN hH hf dX6_step_31
  · replace hf := ite_t c4 hf
    refine lv_iconst (v := (-1)) hx hb dX6_step_12 (by decide) ?_
    exact wk_iret S hr hlk hK hN hH hf dX6_step_13
set_option maxHeartbeats 4000000 in
set_option maxRecDepth 100000 in
theorem C_X6_apart (l : Launch) (X : Cx) (hI : Inj X) {a0 : Nat} (t0 : tY a0 = 5) (a1 : Int32) (a2 : Int32) (h : Hp) (r0 : Int32) (h0 : Hp) (hf : f_X6_apart a0 a1 a2 h = some (r0, h0)) : Mi l X yX6_apart cX6_apart 7 (some .int) 4 99 h [.ref (X.2.2.2 a0), .int a1, .int a2] r0 h0 := by
  refine BD_of (own := RX6) hI rfl (by decide) (Nat.le_of_ble_eq_true rfl) ?_
  intro p e s m args below meth c S hr hlk hK hN
  obtain ⟨hx, hb, hml, hown, hts⟩ := id S
  have B92 : ∀ (k28 : Int32 → Int32 → Int32 → Hp → Option (Int32 × Hp)) (hk28 : ∀ (x3 : Int32) (x4 : Int32) (x5 : Int32) (h : Hp), k28 x3 x4 x5 h = some (r0, h0) → BK p l e ({ frames := 4, cells := 0, slots := 0, locals := 99 }) s m args below meth c (MQ below (cQi X r0 h0) args s 0 0 (AD X)) X 7 28 [(0, .ref (X.2.2.2 a0)), (1, .int a1), (2, .int a2), (3, .int x3), (4, .int x4), (5, .int x5)] [] h) (k43 : Int32 → Int32 → Int32 → Int32 → Hp → Option (Int32 × Hp)) (hk43 : ∀ (x3 : Int32) (x4 : Int32) (x5 : Int32) (x6 : Int32) (h : Hp), k43 x3 x4 x5 x6 h = some (r0, h0) → BK p l e ({ frames := 4, cells := 0, slots := 0, locals := 99 }) s m args below meth c (MQ below (cQi X r0 h0) args s 0 0 (AD X)) X 7 43 [(0, .ref (X.2.2.2 a0)), (1, .int a1), (2, .int a2), (3, .int x3), (4, .int x4), (5, .int x5), (6, .int x6)] [] h) (x3 : Int32) (x4 : Int32) (x5 : Int32) (x6 : Int32) (h : Hp), g_X6_apart_92 a0 a1 a2 k28 k43 x3 x4 x5 x6 h = some (r0, h0) → BK p l e ({ frames := 4, cells := 0, slots := 0, locals := 99 }) s m args below meth c (MQ below (cQi X r0 h0) args s 0 0 (AD X)) X 7 92 [(0, .ref (X.2.2.2 a0)), (1, .int a1), (2, .int a2), (3, .int x3), (4, .int x4), (5, .int x5), (6, .int x6)] [] h := by
    intro k28 hk28 k43 hk43 x3 x4 x5 x6 h hf H locs ls hl hH
    unfold g_X6_apart_92 at hf
    refine lv_iinc (v := (x6 + (1 : Int32))) (lv' := [(6, .int ((x6 + (1 : Int32)))), (0, .ref (X.2.2.2 a0)), (1, .int a1), (2, .int a2), (3, .int x3), (4, .int x4), (5, .int x5)]) hx hb dX6_apart_92 hl (k := 6) rfl rfl (by decide) rfl (fun ls hl => ?_)
    refine lv_goto (tgt := 43) hx hb dX6_apart_95 (by decide) ?_
    exact hk43 _ _ _ _ _ hf H locs ls (lv_sub hl [1, 2, 3, 4, 5, 6, 0] rfl) hH
  have B87 : ∀ (k28 : Int32 → Int32 → Int32 → Hp → Option (Int32 × Hp)) (hk28 : ∀ (x3 : Int32) (x4 : Int32) (x5 : Int32) (h : Hp), k28 x3 x4 x5 h = some (r0, h0) → BK p l e ({ frames := 4, cells := 0, slots := 0, locals := 99 }) s m args below meth c (MQ below (cQi X r0 h0) args s 0 0 (AD X)) X 7 28 [(0, .ref (X.2.2.2 a0)), (1, .int a1), (2, .int a2), (3, .int x3), (4, .int x4), (5, .int x5)] [] h) (k43 : Int32 → Int32 → Int32 → Int32 → Hp → Option (Int32 × Hp)) (hk43 : ∀ (x3 : Int32) (x4 : Int32) (x5 : Int32) (x6 : Int32) (h : Hp), k43 x3 x4 x5 x6 h = some (r0, h0) → BK p l e ({ frames := 4, cells := 0, slots := 0, locals := 99 }) s m args below meth c (MQ below (cQi X r0 h0) args s 0 0 (AD X)) X 7 43 [(0, .ref (X.2.2.2 a0)), (1, .int a1), (2, .int a2), (3, .int x3), (4, .int x4), (5, .int x5), (6, .int x6)] [] h) (x3 : Int32) (x5 : Int32) (x6 : Int32) (z0 : Int32) (h : Hp), g_X6_apart_87 a0 a1 a2 k28 k43 x3 x5 x6 z0 h = some (r0, h0) → BK p l e ({ frames := 4, cells := 0, slots := 0, locals := 99 }) s m args below meth c (MQ below (cQi X r0 h0) args s 0 0 (AD X)) X 7 87 [(0, .ref (X.2.2.2 a0)), (1, .int a1), (2, .int a2), (3, .int x3), (5, .int x5), (6, .int x6)] [.int z0] h := by
    intro k28 hk28 k43 hk43 x3 x5 x6 z0 h hf H locs ls hl hH
    unfold g_X6_apart_87 at hf
    refine lv_istore (lv' := [(4, .int z0), (0, .ref (X.2.2.2 a0)), (1, .int a1), (2, .int a2), (3, .int x3), (5, .int x5), (6, .int x6)]) hx hb dX6_apart_87 hl (by decide) rfl (fun ls hl => ?_)
    refine lv_iinc (v := (x3 + (1 : Int32))) (lv' := [(3, .int ((x3 + (1 : Int32)))), (4, .int z0), (0, .ref (X.2.2.2 a0)), (1, .int a1), (2, .int a2), (5, .int x5), (6, .int x6)]) hx hb dX6_apart_89 hl (k := 4) rfl rfl (by decide) rfl (fun ls hl => ?_)
    exact B92 k28 hk28 k43 hk43 _ _ _ _ _ hf H locs ls (lv_sub hl [2, 3, 4, 0, 1, 5, 6] rfl) hH
  have B43 : ∀ (k28 : Int32 → Int32 → Int32 → Hp → Option (Int32 × Hp)) (hk28 : ∀ (x3 : Int32) (x4 : Int32) (x5 : Int32) (h : Hp), k28 x3 x4 x5 h = some (r0, h0) → BK p l e ({ frames := 4, cells := 0, slots := 0, locals := 99 }) s m args below meth c (MQ below (cQi X r0 h0) args s 0 0 (AD X)) X 7 28 [(0, .ref (X.2.2.2 a0)), (1, .int a1), (2, .int a2), (3, .int x3), (4, .int x4), (5, .int x5)] [] h) (k43 : Int32 → Int32 → Int32 → Int32 → Hp → Option (Int32 × Hp)) (hk43 : ∀ (x3 : Int32) (x4 : Int32) (x5 : Int32) (x6 : Int32) (h : Hp), k43 x3 x4 x5 x6 h = some (r0, h0) → BK p l e ({ frames := 4, cells := 0, slots := 0, locals := 99 }) s m args below meth c (MQ below (cQi X r0 h0) args s 0 0 (AD X)) X 7 43 [(0, .ref (X.2.2.2 a0)), (1, .int a1), (2, .int a2), (3, .int x3), (4, .int x4), (5, .int x5), (6, .int x6)] [] h) (x3 : Int32) (x4 : Int32) (x5 : Int32) (x6 : Int32) (h : Hp), g_X6_apart_43 a0 a1 a2 k28 k43 x3 x4 x5 x6 h = some (r0, h0) → BK p l e ({ frames := 4, cells := 0, slots := 0, locals := 99 }) s m args below meth c (MQ below (cQi X r0 h0) args s 0 0 (AD X)) X 7 43 [(0, .ref (X.2.2.2 a0)), (1, .int a1), (2, .int a2), (3, .int x3), (4, .int x4), (5, .int x5), (6, .int x6)] [] h := by
    intro k28 hk28 k43 hk43 x3 x4 x5 x6 h hf H locs ls hl hH
    unfold g_X6_apart_43 at hf
    refine lv_iload hx hb dX6_apart_43 (lv_at hl 6 rfl) ?_
    refine lv_aload_n hx hb dX6_apart_45 rfl (lv_at hl 0 rfl) ?_
    refine wk_getr (ci := 5) (k := 1) S hK hH j_X6 t0 rfl hq_5_1 (hts _ (wU_in _ m_217)) dX6_apart_46 ?_
    refine wk_getiN (ci := 2) (k := 3) S hK hH j_X2 (tr_5_1 t0) rfl hq_2_3 (hN _ n_126) dX6_apart_49 ?_
    refine lv_icmp_ge (tgt := 98) hx hb dX6_apart_52 (by decide) (fun c1 => ?_) (fun c1 => ?_)
    · replace hf := ite_t c1 hf
      refine lv_iinc (v := (x5 + (1 : Int32))) (lv' := [(5, .int ((x5 + (1 : Int32)))), (0, .ref (X.2.2.2 a0)), (1, .int a1), (2, .int a2), (3, .int x3), (4, .int x4), (6, .int x6)]) hx hb dX6_apart_98 hl (k := 5) rfl rfl (by decide) rfl (fun ls hl => ?_)
      refine lv_goto (tgt := 28) hx hb dX6_apart_101 (by decide) ?_
      exact hk28 _ _ _ _ hf H locs ls (lv_sub hl [1, 2, 3, 4, 5, 0] rfl) hH
    · replace hf := ite_f c1 hf
      refine lv_aload_n hx hb dX6_apart_55 rfl (lv_at hl 0 rfl) ?_
      refine wk_getr (ci := 5) (k := 2) S hK hH j_X6 t0 rfl hq_5_2 (hts _ (wU_in _ m_218)) dX6_apart_56 ?_
      refine lv_iload hx hb dX6_apart_59 (lv_at hl 5 rfl) ?_
      refine lv_iload hx hb dX6_apart_61 (lv_at hl 6 rfl) ?_
      obtain ⟨r4, h3, hq2, hf⟩ := bnd_ok hf
      refine wk_callVi (ci := 4) (b := (rF a0 2)) (As := [.int x5, .int x6]) (rest := []) S hK hN hH (tr_5_2 t0) (by decide) rfl (C_X4_makeOf l X hI (tr_5_2 t0) x5 x6 _ _ _ hq2) (cwV 2 hts (gV wU_in m_425 m_376 m_377 m_38 m_378) rfl rfl rfl hdV_X4_makeOf ⟨Nat.le_of_ble_eq_true rfl, Nat.le_of_ble_eq_true rfl⟩) hl.1 rfl rfl (Nat.le_of_ble_eq_true rfl) dX6_apart_63 ⟨Nat.zero_le _, Nat.zero_le _⟩ (fun H locs hH => ?_)
      refine lv_iload_n hx hb dX6_apart_66 rfl (lv_at hl 1 rfl) ?_
      refine lv_icmp_ne (tgt := 92) hx hb dX6_apart_67 (by decide) (fun c5 => ?_) (fun c5 => ?_)
      · replace hf := ite_f c5 hf
        exact B92 k28 hk28 k43 hk43 _ _ _ _ _ hf H locs ls (lv_sub hl [0, 1, 2, 3, 4, 5, 6] rfl) hH
      · replace hf := ite_t c5 hf
        refine lv_iload_n hx hb dX6_apart_70 rfl (lv_at hl 3 rfl) ?_
        refine lv_if_ne (tgt := 85) hx hb dX6_apart_71 (by decide) (fun c6 => ?_) (fun c6 => ?_)
        · replace hf := ite_f c6 hf
          refine lv_iload hx hb dX6_apart_85 (lv_at hl 4 rfl) ?_
          exact B87 k28 hk28 k43 hk43 _ _ _ _ _ hf H locs ls (lv_sub hl [0, 1, 2, 3, 5, 6] rfl) hH
        · replace hf := ite_t c6 hf
          refine lv_bipush (v := 10) hx hb dX6_apart_74 (by decide) ?_
          refine lv_iload hx hb dX6_apart_76 (lv_at hl 5 rfl) ?_
          refine lv_imul hx hb dX6_apart_78 ?_
          refine lv_iload hx hb dX6_apart_79 (lv_at hl 6 rfl) ?_
          refine lv_iadd hx hb dX6_apart_81 ?_
          refine lv_goto (tgt := 87) hx hb dX6_apart_82 (by decide) ?_
          exact B87 k28 hk28 k43 hk43 _ _ _ _ _ hf H locs ls (lv_sub hl [0, 1, 2, 3, 5, 6] rfl) hH
  have BL43 : ∀ (k28 : Int32 → Int32 → Int32 → Hp → Option (Int32 × Hp)) (hk28 : ∀ (x3 : Int32) (x4 : Int32) (x5 : Int32) (h : Hp), k28 x3 x4 x5 h = some (r0, h0) → BK p l e ({ frames := 4, cells := 0, slots := 0, locals := 99 }) s m args below meth c (MQ below (cQi X r0 h0) args s 0 0 (AD X)) X 7 28 [(0, .ref (X.2.2.2 a0)), (1, .int a1), (2, .int a2), (3, .int x3), (4, .int x4), (5, .int x5)] [] h) (n : Nat) (x3 : Int32) (x4 : Int32) (x5 : Int32) (x6 : Int32) (h : Hp), f_X6_apart_43 a0 a1 a2 k28 n x3 x4 x5 x6 h = some (r0, h0) → BK p l e ({ frames := 4, cells := 0, slots := 0, locals := 99 }) s m args below meth c (MQ below (cQi X r0 h0) args s 0 0 (AD X)) X 7 43 [(0, .ref (X.2.2.2 a0)), (1, .int a1), (2, .int a2), (3, .int x3), (4, .int x4), (5, .int x5), (6, .int x6)] [] h := by
    intro k28 hk28 n
    induction n with
    | zero => intro x3 x4 x5 x6 h hf; cases hf
    | succ n ih => intro x3 x4 x5 x6 h hf; exact B43 k28 hk28 _ ih _ _ _ _ _ hf
  have B28 : ∀ (k28 : Int32 → Int32 → Int32 → Hp → Option (Int32 × Hp)) (hk28 : ∀ (x3 : Int32) (x4 : Int32) (x5 : Int32) (h : Hp), k28 x3 x4 x5 h = some (r0, h0) → BK p l e ({ frames := 4, cells := 0, slots := 0, locals := 99 }) s m args below meth c (MQ below (cQi X r0 h0) args s 0 0 (AD X)) X 7 28 [(0, .ref (X.2.2.2 a0)), (1, .int a1), (2, .int a2), (3, .int x3), (4, .int x4), (5, .int x5)] [] h) (x3 : Int32) (x4 : Int32) (x5 : Int32) (h : Hp), g_X6_apart_28 a0 a1 a2 k28 x3 x4 x5 h = some (r0, h0) → BK p l e ({ frames := 4, cells := 0, slots := 0, locals := 99 }) s m args below meth c (MQ below (cQi X r0 h0) args s 0 0 (AD X)) X 7 28 [(0, .ref (X.2.2.2 a0)), (1, .int a1), (2, .int a2), (3, .int x3), (4, .int x4), (5, .int x5)] [] h := by
    intro k28 hk28 x3 x4 x5 h hf H locs ls hl hH
    unfold g_X6_apart_28 at hf
    refine lv_iload hx hb dX6_apart_28 (lv_at hl 5 rfl) ?_
    refine lv_aload_n hx hb dX6_apart_30 rfl (lv_at hl 0 rfl) ?_
    refine wk_getr (ci := 5) (k := 1) S hK hH j_X6 t0 rfl hq_5_1 (hts _ (wU_in _ m_217)) dX6_apart_31 ?_
    refine wk_getiN (ci := 2) (k := 2) S hK hH j_X2 (tr_5_1 t0) rfl hq_2_2 (hN _ n_123) dX6_apart_34 ?_
    refine lv_icmp_ge (tgt := 104) hx hb dX6_apart_37 (by decide) (fun c7 => ?_) (fun c7 => ?_)
    · replace hf := ite_t c7 hf
      refine lv_iload_n hx hb dX6_apart_104 rfl (lv_at hl 2 rfl) ?_
      refine lv_if_ne (tgt := 112) hx hb dX6_apart_105 (by decide) (fun c8 => ?_) (fun c8 => ?_)
      · replace hf := ite_f c8 hf
        refine lv_iload hx hb dX6_apart_112 (lv_at hl 4 rfl) ?_
        exact wk_iret S hr hlk hK hN hH hf dX6_apart_114
      · replace hf := ite_t c8 hf
        refine lv_iload_n hx hb dX6_apart_108 rfl (lv_at hl 3 rfl) ?_
        refine lv_goto (tgt := 114) hx hb dX6_apart_109 (by decide) ?_
        exact wk_iret S hr hlk hK hN hH hf dX6_apart_114
    · replace hf := ite_f c7 hf
      refine lv_iconst (v := 0) hx hb dX6_apart_40 (by decide) ?_
      refine lv_istore (lv' := [(6, .int ((0 : Int32))), (0, .ref (X.2.2.2 a0)), (1, .int a1), (2, .int a2), (3, .int x3), (4, .int x4), (5, .int x5)]) hx hb dX6_apart_41 hl (by decide) rfl (fun ls hl => ?_)
      exact BL43 k28 hk28 FU _ _ _ _ _ hf H locs ls (lv_sub hl [1, 2, 3, 4, 5, 6, 0] rfl) hH
  have BL28 : ∀ (n : Nat) (x3 : Int32) (x4 : Int32) (x5 : Int32) (h : Hp), f_X6_apart_28 a0 a1 a2 n x3 x4 x5 h = some (r0, h0) → BK p l e ({ frames := 4, cells := 0, slots := 0, locals := 99 }) s m args below meth c (MQ below (cQi X r0 h0) args s 0 0 (AD X)) X 7 28 [(0, .ref (X.2.2.2 a0)), (1, .int a1), (2, .int a2), (3, .int x3), (4, .int x4), (5, .int x5)] [] h := by
    intro n
    induction n with
    | zero => intro x3 x4 x5 h hf; cases hf
    | succ n ih => intro x3 x4 x5 h hf; exact B28 _ ih _ _ _ _ hf
  have B19 : ∀ (h : Hp), g_X6_apart_19 a0 a1 a2 h = some (r0, h0) → BK p l e ({ frames := 4, cells := 0, slots := 0, locals := 99 }) s m args below meth c (MQ below (cQi X r0 h0) args s 0 0 (AD X)) X 7 19 [(0, .ref (X.2.2.2 a0)), (1, .int a1), (2, .int a2)] [] h := by
    intro h hf H locs ls hl hH
    unfold g_X6_apart_19 at hf
    refine lv_iconst (v := 0) hx hb dX6_apart_19 (by decide) ?_
    refine lv_istore_n (lv' := [(3, .int ((0 : Int32))), (0, .ref (X.2.2.2 a0)), (1, .int a1), (2, .int a2)]) hx hb dX6_apart_20 rfl hl (by decide) rfl (fun ls hl => ?_)
    refine lv_bipush (v := (-9)) hx hb dX6_apart_21 (by decide) ?_
    refine lv_istore (lv' := [(4, .int ((-9 : Int32))), (3, .int ((0 : Int32))), (0, .ref (X.2.2.2 a0)), (1, .int a1), (2, .int a2)]) hx hb dX6_apart_23 hl (by decide) rfl (fun ls hl => ?_)
    refine lv_iconst (v := 0) hx hb dX6_apart_25 (by decide) ?_
    refine lv_istore (lv' := [(5, .int ((0 : Int32))), (4, .int ((-9 : Int32))), (3, .int ((0 : Int32))), (0, .ref (X.2.2.2 a0)), (1, .int a1), (2, .int a2)]) hx hb dX6_apart_26 hl (by decide) rfl (fun ls hl => ?_)
    exact BL28 FU _ _ _ _ hf H locs ls (lv_sub hl [3, 4, 5, 2, 1, 0] rfl) hH
  intro H locs ls hl hH
  replace hl : lv_has ls 7 [(0, .ref (X.2.2.2 a0)), (1, .int a1), (2, .int a2)] := hl
  unfold f_X6_apart at hf
  refine lv_iload_n hx hb dX6_apart_0 rfl (lv_at hl 1 rfl) ?_
  obtain ⟨r11, h10, hq9, hf⟩ := bnd_ok hf
  refine wk_callSi (As := [.int a1]) (rest := []) S hK hN hH (C_X5_isWord l X hI a1 _ _ _ hq9) (va_cwS 1 hts (gS wU_in m_436 m_437 m_43 m_438) rfl rfl rfl hdS_X5_isWord ⟨Nat.le_of_ble_eq_true rfl, Nat.le_of_ble_eq_true rfl⟩) hl.1 rfl rfl (Nat.le_of_ble_eq_true rfl) dX6_apart_1 ⟨Nat.zero_le _, Nat.zero_le _⟩ (fun H locs hH => ?_)
  refine lv_if_eq (tgt := 16) hx hb dX6_apart_4 (by decide) (fun c12 => ?_) (fun c12 => ?_)
  · replace hf := ite_t c12 hf
    refine lv_bipush (v := (-2)) hx hb dX6_apart_16 (by decide) ?_
    exact wk_iret S hr hlk hK hN hH hf dX6_apart_18
  · replace hf := ite_f c12 hf
    refine lv_iload_n hx hb dX6_apart_7 rfl (lv_at hl 2 rfl) ?_
    refine lv_if_eq (tgt := 19) hx hb dX6_apart_8 (by decide) (fun c13 => ?_) (fun c13 => ?_)
    · replace hf := ite_t c13 hf
      exact B19 _ hf H locs ls (lv_sub hl [0, 1, 2] rfl) hH
    · replace hf := ite_f c13 hf
      refine lv_iload_n hx hb dX6_apart_11 rfl (lv_at hl 2 rfl) ?_
      refine lv_iconst (v := 1) hx hb dX6_apart_12 (by decide) ?_
      refine lv_icmp_eq (tgt := 19) hx hb dX6_apart_13 (by decide) (fun c14 => ?_) (fun c14 => ?_)
      · replace hf := ite_t c14 hf
        exact B19 _ hf H locs ls (lv_sub hl [0, 1, 2] rfl) hH
      · replace hf := ite_f c14 hf
        refine lv_bipush (v := (-2)) hx hb dX6_apart_16 (by decide) ?_
        exact wk_iret S hr hlk hK hN hH hf dX6_apart_18
set_option maxHeartbeats 4000000 in
set_option maxRecDepth 100000 in
theorem C_X6_form (l : Launch) (X : Cx) (hI : Inj X) {a0 : Nat} (t0 : tY a0 = 5) (a1 : Int32) (a2 : Int32) (h : Hp) (r0 : Int32) (h0 : Hp) (hf : f_X6_form a0 a1 a2 h = some (r0, h0)) : Mi l X yX6_form cX6_form 3 (some .int) 2 43 h [.ref (X.2.2.2 a0), .int a1, .int a2] r0 h0 := by
  refine BD_of (own := RX6) hI rfl (by decide) (Nat.le_of_ble_eq_true rfl) ?_
  intro p e s m args below meth c S hr hlk hK hN
  obtain ⟨hx, hb, hml, hown, hts⟩ := id S
  intro H locs ls hl hH
  replace hl : lv_has ls 3 [(0, .ref (X.2.2.2 a0)), (1, .int a1), (2, .int a2)] := hl
  unfold f_X6_form at hf
  refine lv_aload_n hx hb dX6_form_0 rfl (lv_at hl 0 rfl) ?_
  refine wk_getr (ci := 5) (k := 1) S hK hH j_X6 t0 rfl hq_5_1 (hts _ (wU_in _ m_217)) dX6_form_1 ?_
  refine lv_iload_n hx hb dX6_form_4 rfl (lv_at hl 1 rfl) ?_
  refine lv_iload_n hx hb dX6_form_5 rfl (lv_at hl 2 rfl) ?_
  obtain ⟨r3, h2, hq1, hf⟩ := bnd_ok hf
  refine wk_callVi (ci := 2) (b := (rF a0 1)) (As := [.int a1, .int a2]) (rest := []) S hK hN hH (tr_5_1 t0) (by decide) rfl (C_X2_hasPair l X hI (tr_5_1 t0) a1 a2 _ _ _ hq1) (cwV 2 hts (gV wU_in m_419 m_420 m_421 m_37 m_422) rfl rfl rfl hdV_X2_hasPair ⟨Nat.le_of_ble_eq_true rfl, Nat.le_of_ble_eq_true rfl⟩) hl.1 rfl rfl (Nat.le_of_ble_eq_true rfl) dX6_form_6 ⟨Nat.zero_le _, Nat.zero_le _⟩ (fun H locs hH => ?_)
  refine lv_if_eq (tgt := 24) hx hb dX6_form_9 (by decide) (fun c4 => ?_) (fun c4 => ?_)
  · replace hf := ite_t c4 hf
    refine lv_iconst (v := (-1)) hx hb dX6_form_24 (by decide) ?_
    exact wk_iret S hr hlk hK hN hH hf dX6_form_25
  · replace hf := ite_f c4 hf
    refine lv_aload_n hx hb dX6_form_12 rfl (lv_at hl 0 rfl) ?_
    refine wk_getr (ci := 5) (k := 2) S hK hH j_X6 t0 rfl hq_5_2 (hts _ (wU_in _ m_218)) dX6_form_13 ?_
    refine lv_iload_n hx hb dX6_form_16 rfl (lv_at hl 1 rfl) ?_
    refine lv_iload_n hx hb dX6_form_17 rfl (lv_at hl 2 rfl) ?_
    obtain ⟨r7, h6, hq5, hf⟩ := bnd_ok hf
    refine wk_callVi (ci := 4) (b := (rF a0 2)) (As := [.int a1, .int a2]) (rest := []) S hK hN hH (tr_5_2 t0) (by decide) rfl (C_X4_formOf l X hI (tr_5_2 t0) a1 a2 _ _ _ hq5) (cwV 2 hts (gV wU_in m_444 m_372 m_373 m_38 m_374) rfl rfl rfl hdV_X4_formOf ⟨Nat.le_of_ble_eq_true rfl, Nat.le_of_ble_eq_true rfl⟩) hl.1 rfl rfl (Nat.le_of_ble_eq_true rfl) dX6_form_18 ⟨Nat.zero_le _, Nat.zero_le _⟩ (fun H locs hH => ?_)
    refine lv_goto (tgt := 25) hx hb dX6_form_21 (by decide) ?_
    exact wk_iret S hr hlk hK hN hH hf dX6_form_25
set_option maxHeartbeats 4000000 in
set_option maxRecDepth 100000 in
theorem C_X6_swap (l : Launch) (X : Cx) (hI : Inj X) {a0 : Nat} (t0 : tY a0 = 5) (a1 : Int32) (a2 : Int32) (h : Hp) (r0 : Int32) (h0 : Hp) (hf : f_X6_swap a0 a1 a2 h = some (r0, h0)) : Mi l X yX6_swap cX6_swap 3 (some .int) 4 102 h [.ref (X.2.2.2 a0), .int a1, .int a2] r0 h0 := by
  refine BD_of (own := RX6) hI rfl (by decide) (Nat.le_of_ble_eq_true rfl) ?_
  intro p e s m args below meth c S hr hlk hK hN
  obtain ⟨hx, hb, hml, hown, hts⟩ := id S
  intro H locs ls hl hH
  replace hl : lv_has ls 3 [(0, .ref (X.2.2.2 a0)), (1, .int a1), (2, .int a2)] := hl
  unfold f_X6_swap at hf
  refine lv_aload_n hx hb dX6_swap_0 rfl (lv_at hl 0 rfl) ?_
  refine wk_getr (ci := 5) (k := 2) S hK hH j_X6 t0 rfl hq_5_2 (hts _ (wU_in _ m_218)) dX6_swap_1 ?_
  refine lv_iload_n hx hb dX6_swap_4 rfl (lv_at hl 1 rfl) ?_
  obtain ⟨r3, h2, hq1, hf⟩ := bnd_ok hf
  refine wk_callVi (ci := 4) (b := (rF a0 2)) (As := [.int a1]) (rest := []) S hK hN hH (tr_5_2 t0) (by decide) rfl (C_X4_hasChange l X hI (tr_5_2 t0) a1 _ _ _ hq1) (cwV 1 hts (gV wU_in m_403 m_404 m_405 m_38 m_406) rfl rfl rfl hdV_X4_hasChange ⟨Nat.le_of_ble_eq_true rfl, Nat.le_of_ble_eq_true rfl⟩) hl.1 rfl rfl (Nat.le_of_ble_eq_true rfl) dX6_swap_5 ⟨Nat.zero_le _, Nat.zero_le _⟩ (fun H locs hH => ?_)
  refine lv_if_eq (tgt := 22) hx hb dX6_swap_8 (by decide) (fun c4 => ?_) (fun c4 => ?_)
  · replace hf := ite_t c4 hf
    refine lv_iconst (v := (-1)) hx hb dX6_swap_22 (by decide) ?_
    exact wk_iret S hr hlk hK hN hH hf dX6_swap_23
  · replace hf := ite_f c4 hf
    refine lv_aload_n hx hb dX6_swap_11 rfl (lv_at hl 0 rfl) ?_
    refine wk_getr (ci := 5) (k := 2) S hK hH j_X6 t0 rfl hq_5_2 (hts _ (wU_in _ m_218)) dX6_swap_12 ?_
    refine lv_iload_n hx hb dX6_swap_15 rfl (lv_at hl 2 rfl) ?_
    obtain ⟨r7, h6, hq5, hf⟩ := bnd_ok hf
    refine wk_callVi (ci := 4) (b := (rF a0 2)) (As := [.int a2]) (rest := []) S hK hN hH (tr_5_2 t0) (by decide) rfl (C_X4_hasChange l X hI (tr_5_2 t0) a2 _ _ _ hq5) (cwV 1 hts (gV wU_in m_403 m_404 m_405 m_38 m_406) rfl rfl rfl hdV_X4_hasChange ⟨Nat.le_of_ble_eq_true rfl, Nat.le_of_ble_eq_true rfl⟩) hl.1 rfl rfl (Nat.le_of_ble_eq_true rfl) dX6_swap_16 ⟨Nat.zero_le _, Nat.zero_le _⟩ (fun H locs hH => ?_)
    refine lv_if_ne (tgt := 24) hx hb dX6_swap_19 (by decide) (fun c8 => ?_) (fun c8 => ?_)
    · replace hf := ite_f c8 hf
      refine lv_aload_n hx hb dX6_swap_24 rfl (lv_at hl 0 rfl) ?_
      refine wk_getr (ci := 5) (k := 2) S hK hH j_X6 t0 rfl hq_5_2 (hts _ (wU_in _ m_218)) dX6_swap_25 ?_
      refine lv_iload_n hx hb dX6_swap_28 rfl (lv_at hl 1 rfl) ?_
      refine lv_iload_n hx hb dX6_swap_29 rfl (lv_at hl 2 rfl) ?_
      obtain ⟨h10, hq9, hf⟩ := bind_ok hf
      refine wk_callVv (ci := 4) (b := (rF a0 2)) (As := [.int a1, .int a2]) (rest := []) S hK hN hH (tr_5_2 t0) (by decide) rfl (C_X4_exchange l X hI (tr_5_2 t0) a1 a2 _ _ hq9) (cwV 2 hts (gV wU_in m_449 m_450 m_451 m_38 m_452) rfl rfl rfl hdV_X4_exchange ⟨Nat.le_of_ble_eq_true rfl, Nat.le_of_ble_eq_true rfl⟩) hl.1 rfl rfl (Nat.le_of_ble_eq_true rfl) dX6_swap_30 ⟨Nat.zero_le _, Nat.zero_le _⟩ (fun H locs hH => ?_)
      refine lv_aload_n hx hb dX6_swap_33 rfl (lv_at hl 0 rfl) ?_
      refine wk_getr (ci := 5) (k := 6) S hK hH j_X6 t0 rfl hq_5_6 (hts _ (wU_in _ m_222)) dX6_swap_34 ?_
      refine lv_iconst (v := 1) hx hb dX6_swap_37 (by decide) ?_
      refine lv_iload_n hx hb dX6_swap_38 rfl (lv_at hl 1 rfl) ?_
      refine lv_iload_n hx hb dX6_swap_39 rfl (lv_at hl 2 rfl) ?_
      refine lv_iconst (v := 0) hx hb dX6_swap_40 (by decide) ?_
      obtain ⟨h13, hq12, hf⟩ := bind_ok hf
      refine wk_callVv (ci := 0) (b := (rF a0 6)) (As := [.int ((1 : Int32)), .int a1, .int a2, .int ((0 : Int32))]) (rest := []) S hK hN hH (tr_5_6 t0) (by decide) rfl (C_X0_add l X hI (tr_5_6 t0) (1 : Int32) a1 a2 (0 : Int32) _ _ hq12) (cwV 4 hts (gV wU_in m_453 m_454 m_455 m_39 m_456) rfl rfl rfl hdV_X0_add ⟨Nat.le_of_ble_eq_true rfl, Nat.le_of_ble_eq_true rfl⟩) hl.1 rfl rfl (Nat.le_of_ble_eq_true rfl) dX6_swap_41 ⟨Nat.zero_le _, Nat.zero_le _⟩ (fun H locs hH => ?_)
      refine lv_aload_n hx hb dX6_swap_44 rfl (lv_at hl 0 rfl) ?_
      refine wk_getr (ci := 5) (k := 2) S hK hH j_X6 t0 rfl hq_5_2 (hts _ (wU_in _ m_218)) dX6_swap_45 ?_
      refine lv_aload_n hx hb dX6_swap_48 rfl (lv_at hl 0 rfl) ?_
      refine wk_getr (ci := 5) (k := 2) S hK hH j_X6 t0 rfl hq_5_2 (hts _ (wU_in _ m_218)) dX6_swap_49 ?_
      obtain ⟨r17, h16, hq15, hf⟩ := bnd_ok hf
      refine wk_callVi (ci := 4) (b := (rF a0 2)) (As := []) (rest := [.ref (X.2.2.2 (rF a0 2))]) S hK hN hH (tr_5_2 t0) (by decide) rfl (C_X4_allChanges l X hI (tr_5_2 t0) _ _ _ hq15) (cwV 0 hts (gV wU_in m_325 m_326 m_327 m_38 m_328) rfl rfl rfl hdV_X4_allChanges ⟨Nat.le_of_ble_eq_true rfl, Nat.le_of_ble_eq_true rfl⟩) hl.1 rfl rfl (Nat.le_of_ble_eq_true rfl) dX6_swap_52 ⟨Nat.zero_le _, Nat.zero_le _⟩ (fun H locs hH => ?_)
      obtain ⟨r20, h19, hq18, hf⟩ := bnd_ok hf
      refine wk_callVi (ci := 4) (b := (rF a0 2)) (As := [.int r17]) (rest := []) S hK hN hH (tr_5_2 t0) (by decide) rfl (C_X4_unlikeWords l X hI (tr_5_2 t0) r17 _ _ _ hq18) (cwV 1 hts (gV wU_in m_329 m_330 m_331 m_38 m_332) rfl rfl rfl hdV_X4_unlikeWords ⟨Nat.le_of_ble_eq_true rfl, Nat.le_of_ble_eq_true rfl⟩) hl.1 rfl rfl (Nat.le_of_ble_eq_true rfl) dX6_swap_55 ⟨Nat.zero_le _, Nat.zero_le _⟩ (fun H locs hH => ?_)
      exact wk_iret S hr hlk hK hN hH hf dX6_swap_58
    · replace hf := ite_t c8 hf
      refine lv_iconst (v := (-1)) hx hb dX6_swap_22 (by decide) ?_
      exact wk_iret S hr hlk hK hN hH hf dX6_swap_23
set_option maxHeartbeats 4000000 in
set_option maxRecDepth 100000 in
theorem C_X6_resign (l : Launch) (X : Cx) (hI : Inj X) {a0 : Nat} (t0 : tY a0 = 5) (a1 : Int32) (a2 : Int32) (a3 : Int32) (h : Hp) (r0 : Int32) (h0 : Hp) (hf : f_X6_resign a0 a1 a2 a3 h = some (r0, h0)) : Mi l X yX6_resign cX6_resign 5 (some .int) 1 25 h [.ref (X.2.2.2 a0), .int a1, .int a2, .int a3] r0 h0 := by
  refine BD_of (own := RX6) hI rfl (by decide) (Nat.le_of_ble_eq_true rfl) ?_
  intro p e s m args below meth c S hr hlk hK hN
  obtain ⟨hx, hb, hml, hown, hts⟩ := id S
  intro H locs ls hl hH
  replace hl : lv_has ls 5 [(0, .ref (X.2.2.2 a0)), (1, .int a1), (2, .int a2), (3, .int a3)] := hl
  unfold f_X6_resign at hf
  refine lv_aload_n hx hb dX6_resign_0 rfl (lv_at hl 0 rfl) ?_
  refine wk_getr (ci := 5) (k := 2) S hK hH j_X6 t0 rfl hq_5_2 (hts _ (wU_in _ m_218)) dX6_resign_1 ?_
  refine lv_iload_n hx hb dX6_resign_4 rfl (lv_at hl 1 rfl) ?_
  obtain ⟨r3, h2, hq1, hf⟩ := bnd_ok hf
  refine wk_callVi (ci := 4) (b := (rF a0 2)) (As := [.int a1]) (rest := []) S hK hN hH (tr_5_2 t0) (by decide) rfl (C_X4_hasChange l X hI (tr_5_2 t0) a1 _ _ _ hq1) (cwV 1 hts (gV wU_in m_403 m_404 m_405 m_38 m_406) rfl rfl rfl hdV_X4_hasChange ⟨Nat.le_of_ble_eq_true rfl, Nat.le_of_ble_eq_true rfl⟩) hl.1 rfl rfl (Nat.le_of_ble_eq_true rfl) dX6_resign_5 ⟨Nat.zero_le _, Nat.zero_le _⟩ (fun H locs hH => ?_)
  refine lv_if_ne (tgt := 13) hx hb dX6_resign_8 (by decide) (fun c4 => ?_) (fun c4 => ?_)
  · replace hf := ite_f c4 hf
    refine lv_iload_n hx hb dX6_resign_13 rfl (lv_at hl 2 rfl) ?_
    refine lv_iload_n hx hb dX6_resign_14 rfl (lv_at hl 3 rfl) ?_
    obtain ⟨r7, h6, hq5, hf⟩ := bnd_ok hf
    refine wk_callSi (As := [.int a2, .int a3]) (rest := []) S hK hN hH (C_X6_allowsSign l X hI a2 a3 _ _ _ hq5) (va_cwS 2 hts (gS wU_in m_461 m_295 m_35 m_296) rfl rfl rfl hdS_X6_allowsSign ⟨Nat.le_of_ble_eq_true rfl, Nat.le_of_ble_eq_true rfl⟩) hl.1 rfl rfl (Nat.le_of_ble_eq_true rfl) dX6_resign_15 ⟨Nat.zero_le _, Nat.zero_le _⟩ (fun H locs hH => ?_)
    refine lv_if_ne (tgt := 24) hx hb dX6_resign_18 (by decide) (fun c8 => ?_) (fun c8 => ?_)
    · replace hf := ite_f c8 hf
      refine lv_aload_n hx hb dX6_resign_24 rfl (lv_at hl 0 rfl) ?_
      refine wk_getr (ci := 5) (k := 2) S hK hH j_X6 t0 rfl hq_5_2 (hts _ (wU_in _ m_218)) dX6_resign_25 ?_
      refine lv_iload_n hx hb dX6_resign_28 rfl (lv_at hl 1 rfl) ?_
      refine lv_iload_n hx hb dX6_resign_29 rfl (lv_at hl 2 rfl) ?_
      obtain ⟨r11, h10, hq9, hf⟩ := bnd_ok hf
      refine wk_callVi (ci := 4) (b := (rF a0 2)) (As := [.int a1, .int a2]) (rest := []) S hK hN hH (tr_5_2 t0) (by decide) rfl (C_X4_signOf l X hI (tr_5_2 t0) a1 a2 _ _ _ hq9) (cwV 2 hts (gV wU_in m_410 m_349 m_350 m_38 m_351) rfl rfl rfl hdV_X4_signOf ⟨Nat.le_of_ble_eq_true rfl, Nat.le_of_ble_eq_true rfl⟩) hl.1 rfl rfl (Nat.le_of_ble_eq_true rfl) dX6_resign_30 ⟨Nat.zero_le _, Nat.zero_le _⟩ (fun H locs hH => ?_)
      refine lv_istore (lv' := [(4, .int r11), (0, .ref (X.2.2.2 a0)), (1, .int a1), (2, .int a2), (3, .int a3)]) hx hb dX6_resign_33 hl (by decide) rfl (fun ls hl => ?_)
      refine lv_aload_n hx hb dX6_resign_35 rfl (lv_at hl 1 rfl) ?_
      refine wk_getr (ci := 5) (k := 2) S hK hH j_X6 t0 rfl hq_5_2 (hts _ (wU_in _ m_218)) dX6_resign_36 ?_
      refine lv_iload_n hx hb dX6_resign_39 rfl (lv_at hl 2 rfl) ?_
      refine lv_iload_n hx hb dX6_resign_40 rfl (lv_at hl 3 rfl) ?_
      refine lv_iload_n hx hb dX6_resign_41 rfl (lv_at hl 4 rfl) ?_
      obtain ⟨h13, hq12, hf⟩ := bind_ok hf
      refine wk_callVv (ci := 4) (b := (rF a0 2)) (As := [.int a1, .int a2, .int a3]) (rest := []) S hK hN hH (tr_5_2 t0) (by decide) rfl (C_X4_putSign l X hI (tr_5_2 t0) a1 a2 a3 _ _ hq12) (cwV 3 hts (gV wU_in m_462 m_463 m_464 m_38 m_465) rfl rfl rfl hdV_X4_putSign ⟨Nat.le_of_ble_eq_true rfl, Nat.le_of_ble_eq_true rfl⟩) hl.1 rfl rfl (Nat.le_of_ble_eq_true rfl) dX6_resign_42 ⟨Nat.zero_le _, Nat.zero_le _⟩ (fun H locs hH => ?_)
      refine lv_aload_n hx hb dX6_resign_45 rfl (lv_at hl 1 rfl) ?_
      refine wk_getr (ci := 5) (k := 6) S hK hH j_X6 t0 rfl hq_5_6 (hts _ (wU_in _ m_222)) dX6_resign_46 ?_
      refine lv_iconst (v := 2) hx hb dX6_resign_49 (by decide) ?_
      refine lv_iload_n hx hb dX6_resign_50 rfl (lv_at hl 2 rfl) ?_
      refine lv_iload_n hx hb dX6_resign_51 rfl (lv_at hl 3 rfl) ?_
      refine lv_iload hx hb dX6_resign_52 (lv_at hl 0 rfl) ?_
      obtain ⟨h16, hq15, hf⟩ := bind_ok hf
      refine wk_callVv (ci := 0) (b := (rF a0 6)) (As := [.int ((2 : Int32)), .int a1, .int a2, .int r11]) (rest := []) S hK hN hH (tr_5_6 t0) (by decide) rfl (C_X0_add l X hI (tr_5_6 t0) (2 : Int32) a1 a2 r11 _ _ hq15) (cwV 4 hts (gV wU_in m_453 m_454 m_455 m_39 m_456) rfl rfl rfl hdV_X0_add ⟨Nat.le_of_ble_eq_true rfl, Nat.le_of_ble_eq_true rfl⟩) hl.1 rfl rfl (Nat.le_of_ble_eq_true rfl) dX6_resign_54 ⟨Nat.zero_le _, Nat.zero_le _⟩ (fun H locs hH => ?_)
      refine lv_iload hx hb dX6_resign_57 (lv_at hl 0 rfl) ?_
      exact wk_iret S hr hlk hK hN hH hf dX6_resign_59
    · replace hf := ite_t c8 hf
      refine lv_bipush (v := (-2)) hx hb dX6_resign_21 (by decide) ?_
      exact wk_iret S hr hlk hK hN hH hf dX6_resign_23
  · replace hf := ite_t c4 hf
    refine lv_iconst (v := (-1)) hx hb dX6_resign_11 (by decide) ?_
    exact wk_iret S hr hlk hK hN hH hf dX6_resign_12
set_option maxHeartbeats 4000000 in
set_option maxRecDepth 100000 in
theorem C_X6_tell (l : Launch) (X : Cx) (hI : Inj X) {a0 : Nat} (t0 : tY a0 = 5) (a1 : Int32) (a2 : Int32) (a3 : Int32) (h : Hp) (r0 : Int32) (h0 : Hp) (hf : f_X6_tell a0 a1 a2 a3 h = some (r0, h0)) : Mi l X yX6_tell cX6_tell 5 (some .int) 5 123 h [.ref (X.2.2.2 a0), .int a1, .int a2, .int a3] r0 h0 := by
  refine BD_of (own := RX6) hI rfl (by decide) (Nat.le_of_ble_eq_true rfl) ?_
  intro p e s m args below meth c S hr hlk hK hN
  obtain ⟨hx, hb, hml, hown, hts⟩ := id S
  have B30 : ∀ (h : Hp), g_X6_tell_30 a0 a1 a2 a3 h = some (r0, h0) → BK p l e ({ frames := 5, cells := 0, slots := 0, locals := 123 }) s m args below meth c (MQ below (cQi X r0 h0) args s 0 0 (AD X)) X 5 30 [(0, .ref (X.2.2.2 a0)), (1, .int a1), (2, .int a2), (3, .int a3)] [] h := by
    intro h hf H locs ls hl hH
    unfold g_X6_tell_30 at hf
    refine lv_aload_n hx hb dX6_tell_30 rfl (lv_at hl 0 rfl) ?_
    refine wk_getr (ci := 5) (k := 2) S hK hH j_X6 t0 rfl hq_5_2 (hts _ (wU_in _ m_218)) dX6_tell_31 ?_
    refine lv_iload_n hx hb dX6_tell_34 rfl (lv_at hl 1 rfl) ?_
    refine lv_iload_n hx hb dX6_tell_35 rfl (lv_at hl 2 rfl) ?_
    obtain ⟨r3, h2, hq1, hf⟩ := bnd_ok hf
    refine wk_callVi (ci := 4) (b := (rF a0 2)) (As := [.int a1, .int a2]) (rest := []) S hK hN hH (tr_5_2 t0) (by decide) rfl (C_X4_formOf l X hI (tr_5_2 t0) a1 a2 _ _ _ hq1) (cwV 2 hts (gV wU_in m_444 m_372 m_373 m_38 m_374) rfl rfl rfl hdV_X4_formOf ⟨Nat.le_of_ble_eq_true rfl, Nat.le_of_ble_eq_true rfl⟩) hl.1 rfl rfl (Nat.le_of_ble_eq_true rfl) dX6_tell_36 ⟨Nat.zero_le _, Nat.zero_le _⟩ (fun H locs hH => ?_)
    refine lv_istore (lv' := [(4, .int r3), (0, .ref (X.2.2.2 a0)), (1, .int a1), (2, .int a2), (3, .int a3)]) hx hb dX6_tell_39 hl (by decide) rfl (fun ls hl => ?_)
    refine lv_aload_n hx hb dX6_tell_41 rfl (lv_at hl 1 rfl) ?_
    refine wk_getr (ci := 5) (k := 2) S hK hH j_X6 t0 rfl hq_5_2 (hts _ (wU_in _ m_218)) dX6_tell_42 ?_
    refine lv_iload_n hx hb dX6_tell_45 rfl (lv_at hl 2 rfl) ?_
    refine lv_iload_n hx hb dX6_tell_46 rfl (lv_at hl 3 rfl) ?_
    refine lv_iload_n hx hb dX6_tell_47 rfl (lv_at hl 4 rfl) ?_
    obtain ⟨h5, hq4, hf⟩ := bind_ok hf
    refine wk_callVv (ci := 4) (b := (rF a0 2)) (As := [.int a1, .int a2, .int a3]) (rest := []) S hK hN hH (tr_5_2 t0) (by decide) rfl (C_X4_putForm l X hI (tr_5_2 t0) a1 a2 a3 _ _ hq4) (cwV 3 hts (gV wU_in m_470 m_471 m_472 m_38 m_473) rfl rfl rfl hdV_X4_putForm ⟨Nat.le_of_ble_eq_true rfl, Nat.le_of_ble_eq_true rfl⟩) hl.1 rfl rfl (Nat.le_of_ble_eq_true rfl) dX6_tell_48 ⟨Nat.zero_le _, Nat.zero_le _⟩ (fun H locs hH => ?_)
    refine lv_aload_n hx hb dX6_tell_51 rfl (lv_at hl 1 rfl) ?_
    refine wk_getr (ci := 5) (k := 6) S hK hH j_X6 t0 rfl hq_5_6 (hts _ (wU_in _ m_222)) dX6_tell_52 ?_
    refine lv_iconst (v := 3) hx hb dX6_tell_55 (by decide) ?_
    refine lv_iload_n hx hb dX6_tell_56 rfl (lv_at hl 2 rfl) ?_
    refine lv_iload_n hx hb dX6_tell_57 rfl (lv_at hl 3 rfl) ?_
    refine lv_iload hx hb dX6_tell_58 (lv_at hl 0 rfl) ?_
    obtain ⟨h8, hq7, hf⟩ := bind_ok hf
    refine wk_callVv (ci := 0) (b := (rF a0 6)) (As := [.int ((3 : Int32)), .int a1, .int a2, .int r3]) (rest := []) S hK hN hH (tr_5_6 t0) (by decide) rfl (C_X0_add l X hI (tr_5_6 t0) (3 : Int32) a1 a2 r3 _ _ hq7) (cwV 4 hts (gV wU_in m_453 m_454 m_455 m_39 m_456) rfl rfl rfl hdV_X0_add ⟨Nat.le_of_ble_eq_true rfl, Nat.le_of_ble_eq_true rfl⟩) hl.1 rfl rfl (Nat.le_of_ble_eq_true rfl) dX6_tell_60 ⟨Nat.zero_le _, Nat.zero_le _⟩ (fun H locs hH => ?_)
    refine lv_aload_n hx hb dX6_tell_63 rfl (lv_at hl 1 rfl) ?_
    refine wk_getr (ci := 5) (k := 2) S hK hH j_X6 t0 rfl hq_5_2 (hts _ (wU_in _ m_218)) dX6_tell_64 ?_
    obtain ⟨r12, h11, hq10, hf⟩ := bnd_ok hf
    refine wk_callVi (ci := 4) (b := (rF a0 2)) (As := []) (rest := []) S hK hN hH (tr_5_2 t0) (by decide) rfl (C_X4_exceptions l X hI (tr_5_2 t0) _ _ _ hq10) (cwV 0 hts (gV wU_in m_367 m_368 m_369 m_38 m_370) rfl rfl rfl hdV_X4_exceptions ⟨Nat.le_of_ble_eq_true rfl, Nat.le_of_ble_eq_true rfl⟩) hl.1 rfl rfl (Nat.le_of_ble_eq_true rfl) dX6_tell_67 ⟨Nat.zero_le _, Nat.zero_le _⟩ (fun H locs hH => ?_)
    exact wk_iret S hr hlk hK hN hH hf dX6_tell_70
  intro H locs ls hl hH
  replace hl : lv_has ls 5 [(0, .ref (X.2.2.2 a0)), (1, .int a1), (2, .int a2), (3, .int a3)] := hl
  unfold f_X6_tell at hf
  refine lv_aload_n hx hb dX6_tell_0 rfl (lv_at hl 0 rfl) ?_
  refine wk_getr (ci := 5) (k := 1) S hK hH j_X6 t0 rfl hq_5_1 (hts _ (wU_in _ m_217)) dX6_tell_1 ?_
  refine lv_iload_n hx hb dX6_tell_4 rfl (lv_at hl 1 rfl) ?_
  refine lv_iload_n hx hb dX6_tell_5 rfl (lv_at hl 2 rfl) ?_
  obtain ⟨r15, h14, hq13, hf⟩ := bnd_ok hf
  refine wk_callVi (ci := 2) (b := (rF a0 1)) (As := [.int a1, .int a2]) (rest := []) S hK hN hH (tr_5_1 t0) (by decide) rfl (C_X2_hasPair l X hI (tr_5_1 t0) a1 a2 _ _ _ hq13) (cwV 2 hts (gV wU_in m_419 m_420 m_421 m_37 m_422) rfl rfl rfl hdV_X2_hasPair ⟨Nat.le_of_ble_eq_true rfl, Nat.le_of_ble_eq_true rfl⟩) hl.1 rfl rfl (Nat.le_of_ble_eq_true rfl) dX6_tell_6 ⟨Nat.zero_le _, Nat.zero_le _⟩ (fun H locs hH => ?_)
  refine lv_if_ne (tgt := 14) hx hb dX6_tell_9 (by decide) (fun c16 => ?_) (fun c16 => ?_)
  · replace hf := ite_f c16 hf
    refine lv_iload_n hx hb dX6_tell_14 rfl (lv_at hl 3 rfl) ?_
    refine lv_bipush (v := (-9)) hx hb dX6_tell_15 (by decide) ?_
    refine lv_icmp_eq (tgt := 30) hx hb dX6_tell_17 (by decide) (fun c17 => ?_) (fun c17 => ?_)
    · replace hf := ite_t c17 hf
      exact B30 _ hf H locs ls (lv_sub hl [0, 1, 2, 3] rfl) hH
    · replace hf := ite_f c17 hf
      refine lv_iload_n hx hb dX6_tell_20 rfl (lv_at hl 3 rfl) ?_
      obtain ⟨r20, h19, hq18, hf⟩ := bnd_ok hf
      refine wk_callSi (As := [.int a3]) (rest := []) S hK hN hH (C_X5_isWord l X hI a3 _ _ _ hq18) (va_cwS 1 hts (gS wU_in m_436 m_437 m_43 m_438) rfl rfl rfl hdS_X5_isWord ⟨Nat.le_of_ble_eq_true rfl, Nat.le_of_ble_eq_true rfl⟩) hl.1 rfl rfl (Nat.le_of_ble_eq_true rfl) dX6_tell_21 ⟨Nat.zero_le _, Nat.zero_le _⟩ (fun H locs hH => ?_)
      refine lv_if_ne (tgt := 30) hx hb dX6_tell_24 (by decide) (fun c21 => ?_) (fun c21 => ?_)
      · replace hf := ite_f c21 hf
        exact B30 _ hf H locs ls (lv_sub hl [0, 1, 2, 3] rfl) hH
      · replace hf := ite_t c21 hf
        refine lv_bipush (v := (-2)) hx hb dX6_tell_27 (by decide) ?_
        exact wk_iret S hr hlk hK hN hH hf dX6_tell_29
  · replace hf := ite_t c16 hf
    refine lv_iconst (v := (-1)) hx hb dX6_tell_12 (by decide) ?_
    exact wk_iret S hr hlk hK hN hH hf dX6_tell_13
set_option maxHeartbeats 4000000 in
set_option maxRecDepth 100000 in
theorem C_X6_undo (l : Launch) (X : Cx) (hI : Inj X) {a0 : Nat} (t0 : tY a0 = 5) (h : Hp) (r0 : Int32) (h0 : Hp) (hf : f_X6_undo a0 h = some (r0, h0)) : Mi l X yX6_undo cX6_undo 1 (some .int) 2 45 h [.ref (X.2.2.2 a0)] r0 h0 := by
  refine BD_of (own := RX6) hI rfl (by decide) (Nat.le_of_ble_eq_true rfl) ?_
  intro p e s m args below meth c S hr hlk hK hN
  obtain ⟨hx, hb, hml, hown, hts⟩ := id S
  intro H locs ls hl hH
  replace hl : lv_has ls 1 [(0, .ref (X.2.2.2 a0))] := hl
  unfold f_X6_undo at hf
  refine lv_aload_n hx hb dX6_undo_0 rfl (lv_at hl 0 rfl) ?_
  refine wk_getr (ci := 5) (k := 6) S hK hH j_X6 t0 rfl hq_5_6 (hts _ (wU_in _ m_222)) dX6_undo_1 ?_
  refine wk_getiN (ci := 0) (k := 5) S hK hH j_X0 (tr_5_6 t0) rfl hq_0_5 (hN _ n_178) dX6_undo_4 ?_
  refine lv_if_ne (tgt := 13) hx hb dX6_undo_7 (by decide) (fun c1 => ?_) (fun c1 => ?_)
  · replace hf := ite_f c1 hf
    refine lv_aload_n hx hb dX6_undo_13 rfl (lv_at hl 0 rfl) ?_
    refine wk_getr (ci := 5) (k := 6) S hK hH j_X6 t0 rfl hq_5_6 (hts _ (wU_in _ m_222)) dX6_undo_14 ?_
    refine lv_aload_n hx hb dX6_undo_17 rfl (lv_at hl 0 rfl) ?_
    refine wk_getr (ci := 5) (k := 2) S hK hH j_X6 t0 rfl hq_5_2 (hts _ (wU_in _ m_218)) dX6_undo_18 ?_
    obtain ⟨h3, hq2, hf⟩ := bind_ok hf
    refine wk_callVv (ci := 0) (b := (rF a0 6)) (As := [.ref (X.2.2.2 (rF a0 2))]) (rest := []) S hK hN hH (tr_5_6 t0) (by decide) rfl (C_X0_takeBackLast l X hI (tr_5_6 t0) (tr_5_2 t0) _ _ hq2) (cwV 1 hts (gV wU_in m_478 m_479 m_480 m_39 m_481) rfl rfl rfl hdV_X0_takeBackLast ⟨Nat.le_of_ble_eq_true rfl, Nat.le_of_ble_eq_true rfl⟩) hl.1 rfl rfl (Nat.le_of_ble_eq_true rfl) dX6_undo_21 ⟨Nat.zero_le _, Nat.zero_le _⟩ (fun H locs hH => ?_)
    refine lv_aload_n hx hb dX6_undo_24 rfl (lv_at hl 0 rfl) ?_
    refine wk_getr (ci := 5) (k := 6) S hK hH j_X6 t0 rfl hq_5_6 (hts _ (wU_in _ m_222)) dX6_undo_25 ?_
    refine wk_getiN (ci := 0) (k := 5) S hK hH j_X0 (tr_5_6 t0) rfl hq_0_5 (hN _ n_178) dX6_undo_28 ?_
    exact wk_iret S hr hlk hK hN hH hf dX6_undo_31
  · replace hf := ite_t c1 hf
    refine lv_bipush (v := (-3)) hx hb dX6_undo_10 (by decide) ?_
    exact wk_iret S hr hlk hK hN hH hf dX6_undo_12
set_option maxHeartbeats 4000000 in
set_option maxRecDepth 100000 in
theorem C_X6_cross (l : Launch) (X : Cx) (hI : Inj X) {a0 : Nat} (t0 : tY a0 = 5) (a1 : Int32) (a2 : Int32) (h : Hp) (r0 : Int32) (h0 : Hp) (hf : f_X6_cross a0 a1 a2 h = some (r0, h0)) : Mi l X yX6_cross cX6_cross 3 (some .int) 3 78 h [.ref (X.2.2.2 a0), .int a1, .int a2] r0 h0 := by
  refine BD_of (own := RX6) hI rfl (by decide) (Nat.le_of_ble_eq_true rfl) ?_
  intro p e s m args below meth c S hr hlk hK hN
  obtain ⟨hx, hb, hml, hown, hts⟩ := id S
  intro H locs ls hl hH
  replace hl : lv_has ls 3 [(0, .ref (X.2.2.2 a0)), (1, .int a1), (2, .int a2)] := hl
  unfold f_X6_cross at hf
  refine lv_aload_n hx hb dX6_cross_0 rfl (lv_at hl 0 rfl) ?_
  refine wk_getr (ci := 5) (k := 2) S hK hH j_X6 t0 rfl hq_5_2 (hts _ (wU_in _ m_218)) dX6_cross_1 ?_
  refine lv_iload_n hx hb dX6_cross_4 rfl (lv_at hl 1 rfl) ?_
  obtain ⟨r3, h2, hq1, hf⟩ := bnd_ok hf
  refine wk_callVi (ci := 4) (b := (rF a0 2)) (As := [.int a1]) (rest := []) S hK hN hH (tr_5_2 t0) (by decide) rfl (C_X4_hasChange l X hI (tr_5_2 t0) a1 _ _ _ hq1) (cwV 1 hts (gV wU_in m_403 m_404 m_405 m_38 m_406) rfl rfl rfl hdV_X4_hasChange ⟨Nat.le_of_ble_eq_true rfl, Nat.le_of_ble_eq_true rfl⟩) hl.1 rfl rfl (Nat.le_of_ble_eq_true rfl) dX6_cross_5 ⟨Nat.zero_le _, Nat.zero_le _⟩ (fun H locs hH => ?_)
  refine lv_if_eq (tgt := 22) hx hb dX6_cross_8 (by decide) (fun c4 => ?_) (fun c4 => ?_)
  · replace hf := ite_t c4 hf
    refine lv_iconst (v := (-1)) hx hb dX6_cross_22 (by decide) ?_
    exact wk_iret S hr hlk hK hN hH hf dX6_cross_23
  · replace hf := ite_f c4 hf
    refine lv_aload_n hx hb dX6_cross_11 rfl (lv_at hl 0 rfl) ?_
    refine wk_getr (ci := 5) (k := 2) S hK hH j_X6 t0 rfl hq_5_2 (hts _ (wU_in _ m_218)) dX6_cross_12 ?_
    refine lv_iload_n hx hb dX6_cross_15 rfl (lv_at hl 2 rfl) ?_
    obtain ⟨r7, h6, hq5, hf⟩ := bnd_ok hf
    refine wk_callVi (ci := 4) (b := (rF a0 2)) (As := [.int a2]) (rest := []) S hK hN hH (tr_5_2 t0) (by decide) rfl (C_X4_hasChange l X hI (tr_5_2 t0) a2 _ _ _ hq5) (cwV 1 hts (gV wU_in m_403 m_404 m_405 m_38 m_406) rfl rfl rfl hdV_X4_hasChange ⟨Nat.le_of_ble_eq_true rfl, Nat.le_of_ble_eq_true rfl⟩) hl.1 rfl rfl (Nat.le_of_ble_eq_true rfl) dX6_cross_16 ⟨Nat.zero_le _, Nat.zero_le _⟩ (fun H locs hH => ?_)
    refine lv_if_ne (tgt := 24) hx hb dX6_cross_19 (by decide) (fun c8 => ?_) (fun c8 => ?_)
    · replace hf := ite_f c8 hf
      refine lv_aload_n hx hb dX6_cross_24 rfl (lv_at hl 0 rfl) ?_
      refine wk_getr (ci := 5) (k := 2) S hK hH j_X6 t0 rfl hq_5_2 (hts _ (wU_in _ m_218)) dX6_cross_25 ?_
      refine lv_iload_n hx hb dX6_cross_28 rfl (lv_at hl 1 rfl) ?_
      refine lv_iload_n hx hb dX6_cross_29 rfl (lv_at hl 2 rfl) ?_
      obtain ⟨r11, h10, hq9, hf⟩ := bnd_ok hf
      refine wk_callVi (ci := 4) (b := (rF a0 2)) (As := [.int a1, .int a2]) (rest := []) S hK hN hH (tr_5_2 t0) (by decide) rfl (C_X4_doCross l X hI (tr_5_2 t0) a1 a2 _ _ _ hq9) (cwV 2 hts (gV wU_in m_489 m_490 m_491 m_38 m_492) rfl rfl rfl hdV_X4_doCross ⟨Nat.le_of_ble_eq_true rfl, Nat.le_of_ble_eq_true rfl⟩) hl.1 rfl rfl (Nat.le_of_ble_eq_true rfl) dX6_cross_30 ⟨Nat.zero_le _, Nat.zero_le _⟩ (fun H locs hH => ?_)
      refine lv_if_eq (tgt := 40) hx hb dX6_cross_33 (by decide) (fun c12 => ?_) (fun c12 => ?_)
      · replace hf := ite_t c12 hf
        refine lv_iconst (v := 0) hx hb dX6_cross_40 (by decide) ?_
        exact wk_iret S hr hlk hK hN hH hf dX6_cross_41
      · replace hf := ite_f c12 hf
        refine lv_iconst (v := 1) hx hb dX6_cross_36 (by decide) ?_
        refine lv_goto (tgt := 41) hx hb dX6_cross_37 (by decide) ?_
        exact wk_iret S hr hlk hK hN hH hf dX6_cross_41
    · replace hf := ite_t c8 hf
      refine lv_iconst (v := (-1)) hx hb dX6_cross_22 (by decide) ?_
      exact wk_iret S hr hlk hK hN hH hf dX6_cross_23
set_option maxHeartbeats 4000000 in
set_option maxRecDepth 100000 in
theorem C_X6_best (l : Launch) (X : Cx) (hI : Inj X) {a0 : Nat} (t0 : tY a0 = 5) (a1 : Int32) (h : Hp) (r0 : Int32) (h0 : Hp) (hf : f_X6_best a0 a1 h = some (r0, h0)) : Mi l X yX6_best cX6_best 7 (some .int) 5 123 h [.ref (X.2.2.2 a0), .int a1] r0 h0 := by
  refine BD_of (own := RX6) hI rfl (by decide) (Nat.le_of_ble_eq_true rfl) ?_
  intro p e s m args below meth c S hr hlk hK hN
  obtain ⟨hx, hb, hml, hown, hts⟩ := id S
  have B110 : ∀ (k52 : Int32 → Int32 → Int32 → Int32 → Hp → Option (Int32 × Hp)) (hk52 : ∀ (x2 : Int32) (x3 : Int32) (x4 : Int32) (x5 : Int32) (h : Hp), k52 x2 x3 x4 x5 h = some (r0, h0) → BK p l e ({ frames := 5, cells := 0, slots := 0, locals := 123 }) s m args below meth c (MQ below (cQi X r0 h0) args s 0 0 (AD X)) X 7 52 [(0, .ref (X.2.2.2 a0)), (1, .int a1), (2, .int x2), (3, .int x3), (4, .int x4), (5, .int x5)] [] h) (x2 : Int32) (x3 : Int32) (x4 : Int32) (x5 : Int32) (h : Hp), g_X6_best_110 a0 a1 k52 x2 x3 x4 x5 h = some (r0, h0) → BK p l e ({ frames := 5, cells := 0, slots := 0, locals := 123 }) s m args below meth c (MQ below (cQi X r0 h0) args s 0 0 (AD X)) X 7 110 [(0, .ref (X.2.2.2 a0)), (1, .int a1), (2, .int x2), (3, .int x3), (4, .int x4), (5, .int x5)] [] h := by
    intro k52 hk52 x2 x3 x4 x5 h hf H locs ls hl hH
    unfold g_X6_best_110 at hf
    refine lv_iinc (v := (x5 + (1 : Int32))) (lv' := [(5, .int ((x5 + (1 : Int32)))), (0, .ref (X.2.2.2 a0)), (1, .int a1), (2, .int x2), (3, .int x3), (4, .int x4)]) hx hb dX6_best_110 hl (k := 5) rfl rfl (by decide) rfl (fun ls hl => ?_)
    refine lv_goto (tgt := 52) hx hb dX6_best_113 (by decide) ?_
    exact hk52 _ _ _ _ _ hf H locs ls (lv_sub hl [1, 2, 3, 4, 5, 0] rfl) hH
  have B116 : ∀ (x2 : Int32) (x3 : Int32) (x4 : Int32) (h : Hp), g_X6_best_116 a0 a1 x2 x3 x4 h = some (r0, h0) → BK p l e ({ frames := 5, cells := 0, slots := 0, locals := 123 }) s m args below meth c (MQ below (cQi X r0 h0) args s 0 0 (AD X)) X 7 116 [(1, .int a1), (2, .int x2), (3, .int x3), (4, .int x4)] [] h := by
    intro x2 x3 x4 h hf H locs ls hl hH
    unfold g_X6_best_116 at hf
    refine lv_iload_n hx hb dX6_best_116 rfl (lv_at hl 0 rfl) ?_
    refine lv_if_ne (tgt := 124) hx hb dX6_best_117 (by decide) (fun c1 => ?_) (fun c1 => ?_)
    · replace hf := ite_f c1 hf
      refine lv_iload_n hx hb dX6_best_124 rfl (lv_at hl 0 rfl) ?_
      refine lv_iconst (v := 1) hx hb dX6_best_125 (by decide) ?_
      refine lv_icmp_ne (tgt := 133) hx hb dX6_best_126 (by decide) (fun c2 => ?_) (fun c2 => ?_)
      · replace hf := ite_f c2 hf
        refine lv_iload hx hb dX6_best_133 (lv_at hl 3 rfl) ?_
        exact wk_iret S hr hlk hK hN hH hf dX6_best_135
      · replace hf := ite_t c2 hf
        refine lv_iload_n hx hb dX6_best_129 rfl (lv_at hl 2 rfl) ?_
        refine lv_goto (tgt := 135) hx hb dX6_best_130 (by decide) ?_
        exact wk_iret S hr hlk hK hN hH hf dX6_best_135
    · replace hf := ite_t c1 hf
      refine lv_iload_n hx hb dX6_best_120 rfl (lv_at hl 1 rfl) ?_
      refine lv_goto (tgt := 135) hx hb dX6_best_121 (by decide) ?_
      exact wk_iret S hr hlk hK hN hH hf dX6_best_135
  have B52 : ∀ (k52 : Int32 → Int32 → Int32 → Int32 → Hp → Option (Int32 × Hp)) (hk52 : ∀ (x2 : Int32) (x3 : Int32) (x4 : Int32) (x5 : Int32) (h : Hp), k52 x2 x3 x4 x5 h = some (r0, h0) → BK p l e ({ frames := 5, cells := 0, slots := 0, locals := 123 }) s m args below meth c (MQ below (cQi X r0 h0) args s 0 0 (AD X)) X 7 52 [(0, .ref (X.2.2.2 a0)), (1, .int a1), (2, .int x2), (3, .int x3), (4, .int x4), (5, .int x5)] [] h) (x2 : Int32) (x3 : Int32) (x4 : Int32) (x5 : Int32) (h : Hp), g_X6_best_52 a0 a1 k52 x2 x3 x4 x5 h = some (r0, h0) → BK p l e ({ frames := 5, cells := 0, slots := 0, locals := 123 }) s m args below meth c (MQ below (cQi X r0 h0) args s 0 0 (AD X)) X 7 52 [(0, .ref (X.2.2.2 a0)), (1, .int a1), (2, .int x2), (3, .int x3), (4, .int x4), (5, .int x5)] [] h := by
    intro k52 hk52 x2 x3 x4 x5 h hf H locs ls hl hH
    unfold g_X6_best_52 at hf
    refine lv_iload hx hb dX6_best_52 (lv_at hl 5 rfl) ?_
    refine lv_bipush (v := 24) hx hb dX6_best_54 (by decide) ?_
    refine lv_icmp_ge (tgt := 116) hx hb dX6_best_56 (by decide) (fun c3 => ?_) (fun c3 => ?_)
    · replace hf := ite_t c3 hf
      exact B116 _ _ _ _ hf H locs ls (lv_sub hl [1, 2, 3, 4] rfl) hH
    · replace hf := ite_f c3 hf
      refine lv_aload_n hx hb dX6_best_59 rfl (lv_at hl 0 rfl) ?_
      refine wk_getr (ci := 5) (k := 3) S hK hH j_X6 t0 rfl hq_5_3 (hts _ (wU_in _ m_219)) dX6_best_60 ?_
      obtain ⟨r6, h5, hq4, hf⟩ := bnd_ok hf
      refine wk_callVi (ci := 4) (b := (rF a0 3)) (As := []) (rest := []) S hK hN hH (tr_5_3 t0) (by decide) rfl (C_X4_goToNextOrder l X hI (tr_5_3 t0) _ _ _ hq4) (cwV 0 hts (gV wU_in m_506 m_507 m_508 m_38 m_509) rfl rfl rfl hdV_X4_goToNextOrder ⟨Nat.le_of_ble_eq_true rfl, Nat.le_of_ble_eq_true rfl⟩) hl.1 rfl rfl (Nat.le_of_ble_eq_true rfl) dX6_best_63 ⟨Nat.zero_le _, Nat.zero_le _⟩ (fun H locs hH => ?_)
      refine lv_if_eq (tgt := 116) hx hb dX6_best_66 (by decide) (fun c7 => ?_) (fun c7 => ?_)
      · replace hf := ite_t c7 hf
        exact B116 _ _ _ _ hf H locs ls (lv_sub hl [1, 2, 3, 4] rfl) hH
      · replace hf := ite_f c7 hf
        refine lv_aload_n hx hb dX6_best_69 rfl (lv_at hl 0 rfl) ?_
        refine wk_getr (ci := 5) (k := 3) S hK hH j_X6 t0 rfl hq_5_3 (hts _ (wU_in _ m_219)) dX6_best_70 ?_
        obtain ⟨r10, h9, hq8, hf⟩ := bnd_ok hf
        refine wk_callVi (ci := 4) (b := (rF a0 3)) (As := []) (rest := []) S hK hN hH (tr_5_3 t0) (by decide) rfl (C_X4_exceptions l X hI (tr_5_3 t0) _ _ _ hq8) (cwV 0 hts (gV wU_in m_367 m_368 m_369 m_38 m_370) rfl rfl rfl hdV_X4_exceptions ⟨Nat.le_of_ble_eq_true rfl, Nat.le_of_ble_eq_true rfl⟩) hl.1 rfl rfl (Nat.le_of_ble_eq_true rfl) dX6_best_73 ⟨Nat.zero_le _, Nat.zero_le _⟩ (fun H locs hH => ?_)
        refine lv_istore (lv' := [(6, .int r10), (0, .ref (X.2.2.2 a0)), (1, .int a1), (2, .int x2), (3, .int x3), (4, .int x4), (5, .int x5)]) hx hb dX6_best_76 hl (by decide) rfl (fun ls hl => ?_)
        refine lv_iload hx hb dX6_best_78 (lv_at hl 0 rfl) ?_
        refine lv_iload_n hx hb dX6_best_80 rfl (lv_at hl 3 rfl) ?_
        refine lv_icmp_ge (tgt := 101) hx hb dX6_best_81 (by decide) (fun c11 => ?_) (fun c11 => ?_)
        · replace hf := ite_t c11 hf
          refine lv_iload hx hb dX6_best_101 (lv_at hl 0 rfl) ?_
          refine lv_iload_n hx hb dX6_best_103 rfl (lv_at hl 3 rfl) ?_
          refine lv_icmp_ne (tgt := 110) hx hb dX6_best_104 (by decide) (fun c12 => ?_) (fun c12 => ?_)
          · replace hf := ite_f c12 hf
            exact B110 k52 hk52 _ _ _ _ _ hf H locs ls (lv_sub hl [1, 2, 3, 4, 5, 6] rfl) hH
          · replace hf := ite_t c12 hf
            refine lv_iinc (v := (x4 + (1 : Int32))) (lv' := [(4, .int ((x4 + (1 : Int32)))), (6, .int r10), (0, .ref (X.2.2.2 a0)), (1, .int a1), (2, .int x2), (3, .int x3), (5, .int x5)]) hx hb dX6_best_107 hl (k := 5) rfl rfl (by decide) rfl (fun ls hl => ?_)
            exact B110 k52 hk52 _ _ _ _ _ hf H locs ls (lv_sub hl [2, 3, 4, 5, 0, 6] rfl) hH
        · replace hf := ite_f c11 hf
          refine lv_iload hx hb dX6_best_84 (lv_at hl 0 rfl) ?_
          refine lv_istore_n (lv' := [(2, .int r10), (6, .int r10), (0, .ref (X.2.2.2 a0)), (1, .int a1), (3, .int x3), (4, .int x4), (5, .int x5)]) hx hb dX6_best_86 rfl hl (by decide) rfl (fun ls hl => ?_)
          refine lv_aload_n hx hb dX6_best_87 rfl (lv_at hl 2 rfl) ?_
          refine wk_getr (ci := 5) (k := 3) S hK hH j_X6 t0 rfl hq_5_3 (hts _ (wU_in _ m_219)) dX6_best_88 ?_
          obtain ⟨r15, h14, hq13, hf⟩ := bnd_ok hf
          refine wk_callVi (ci := 4) (b := (rF a0 3)) (As := []) (rest := []) S hK hN hH (tr_5_3 t0) (by decide) rfl (C_X4_orderFigures l X hI (tr_5_3 t0) _ _ _ hq13) (cwV 0 hts (gV wU_in m_502 m_503 m_504 m_38 m_505) rfl rfl rfl hdV_X4_orderFigures ⟨Nat.le_of_ble_eq_true rfl, Nat.le_of_ble_eq_true rfl⟩) hl.1 rfl rfl (Nat.le_of_ble_eq_true rfl) dX6_best_91 ⟨Nat.zero_le _, Nat.zero_le _⟩ (fun H locs hH => ?_)
          refine lv_istore_n (lv' := [(3, .int r15), (2, .int r10), (6, .int r10), (0, .ref (X.2.2.2 a0)), (1, .int a1), (4, .int x4), (5, .int x5)]) hx hb dX6_best_94 rfl hl (by decide) rfl (fun ls hl => ?_)
          refine lv_iconst (v := 1) hx hb dX6_best_95 (by decide) ?_
          refine lv_istore (lv' := [(4, .int ((1 : Int32))), (3, .int r15), (2, .int r10), (6, .int r10), (0, .ref (X.2.2.2 a0)), (1, .int a1), (5, .int x5)]) hx hb dX6_best_96 hl (by decide) rfl (fun ls hl => ?_)
          refine lv_goto (tgt := 110) hx hb dX6_best_98 (by decide) ?_
          exact B110 k52 hk52 _ _ _ _ _ hf H locs ls (lv_sub hl [4, 5, 2, 1, 0, 6] rfl) hH
  have BL52 : ∀ (n : Nat) (x2 : Int32) (x3 : Int32) (x4 : Int32) (x5 : Int32) (h : Hp), f_X6_best_52 a0 a1 n x2 x3 x4 x5 h = some (r0, h0) → BK p l e ({ frames := 5, cells := 0, slots := 0, locals := 123 }) s m args below meth c (MQ below (cQi X r0 h0) args s 0 0 (AD X)) X 7 52 [(0, .ref (X.2.2.2 a0)), (1, .int a1), (2, .int x2), (3, .int x3), (4, .int x4), (5, .int x5)] [] h := by
    intro n
    induction n with
    | zero => intro x2 x3 x4 x5 h hf; cases hf
    | succ n ih => intro x2 x3 x4 x5 h hf; exact B52 _ ih _ _ _ _ _ hf
  intro H locs ls hl hH
  replace hl : lv_has ls 7 [(0, .ref (X.2.2.2 a0)), (1, .int a1)] := hl
  unfold f_X6_best at hf
  refine lv_iload_n hx hb dX6_best_0 rfl (lv_at hl 1 rfl) ?_
  refine lv_if_lt (tgt := 9) hx hb dX6_best_1 (by decide) (fun c16 => ?_) (fun c16 => ?_)
  · replace hf := ite_t c16 hf
    refine lv_bipush (v := (-2)) hx hb dX6_best_9 (by decide) ?_
    exact wk_iret S hr hlk hK hN hH hf dX6_best_11
  · replace hf := ite_f c16 hf
    refine lv_iload_n hx hb dX6_best_4 rfl (lv_at hl 1 rfl) ?_
    refine lv_iconst (v := 2) hx hb dX6_best_5 (by decide) ?_
    refine lv_icmp_le (tgt := 12) hx hb dX6_best_6 (by decide) (fun c17 => ?_) (fun c17 => ?_)
    · replace hf := ite_t c17 hf
      refine lv_aload_n hx hb dX6_best_12 rfl (lv_at hl 0 rfl) ?_
      refine wk_getr (ci := 5) (k := 3) S hK hH j_X6 t0 rfl hq_5_3 (hts _ (wU_in _ m_219)) dX6_best_13 ?_
      refine lv_aload_n hx hb dX6_best_16 rfl (lv_at hl 0 rfl) ?_
      refine wk_getr (ci := 5) (k := 2) S hK hH j_X6 t0 rfl hq_5_2 (hts _ (wU_in _ m_218)) dX6_best_17 ?_
      obtain ⟨h19, hq18, hf⟩ := bind_ok hf
      refine wk_callVv (ci := 4) (b := (rF a0 3)) (As := [.ref (X.2.2.2 (rF a0 2))]) (rest := []) S hK hN hH (tr_5_3 t0) (by decide) rfl (C_X4_takeFrom l X hI (tr_5_3 t0) (tr_5_2 t0) _ _ hq18) (cwV 1 hts (gV wU_in m_497 m_498 m_499 m_38 m_500) rfl rfl rfl hdV_X4_takeFrom ⟨Nat.le_of_ble_eq_true rfl, Nat.le_of_ble_eq_true rfl⟩) hl.1 rfl rfl (Nat.le_of_ble_eq_true rfl) dX6_best_20 ⟨Nat.zero_le _, Nat.zero_le _⟩ (fun H locs hH => ?_)
      refine lv_aload_n hx hb dX6_best_23 rfl (lv_at hl 0 rfl) ?_
      refine wk_getr (ci := 5) (k := 3) S hK hH j_X6 t0 rfl hq_5_3 (hts _ (wU_in _ m_219)) dX6_best_24 ?_
      obtain ⟨h22, hq21, hf⟩ := bind_ok hf
      refine wk_callVv (ci := 4) (b := (rF a0 3)) (As := []) (rest := []) S hK hN hH (tr_5_3 t0) (by decide) rfl (C_X4_orderByNumber l X hI (tr_5_3 t0) _ _ hq21) (cwV 0 hts (gV wU_in m_501 m_318 m_319 m_38 m_320) rfl rfl rfl hdV_X4_orderByNumber ⟨Nat.le_of_ble_eq_true rfl, Nat.le_of_ble_eq_true rfl⟩) hl.1 rfl rfl (Nat.le_of_ble_eq_true rfl) dX6_best_27 ⟨Nat.zero_le _, Nat.zero_le _⟩ (fun H locs hH => ?_)
      refine lv_aload_n hx hb dX6_best_30 rfl (lv_at hl 0 rfl) ?_
      refine wk_getr (ci := 5) (k := 3) S hK hH j_X6 t0 rfl hq_5_3 (hts _ (wU_in _ m_219)) dX6_best_31 ?_
      obtain ⟨r26, h25, hq24, hf⟩ := bnd_ok hf
      refine wk_callVi (ci := 4) (b := (rF a0 3)) (As := []) (rest := []) S hK hN hH (tr_5_3 t0) (by decide) rfl (C_X4_exceptions l X hI (tr_5_3 t0) _ _ _ hq24) (cwV 0 hts (gV wU_in m_367 m_368 m_369 m_38 m_370) rfl rfl rfl hdV_X4_exceptions ⟨Nat.le_of_ble_eq_true rfl, Nat.le_of_ble_eq_true rfl⟩) hl.1 rfl rfl (Nat.le_of_ble_eq_true rfl) dX6_best_34 ⟨Nat.zero_le _, Nat.zero_le _⟩ (fun H locs hH => ?_)
      refine lv_istore_n (lv' := [(2, .int r26), (0, .ref (X.2.2.2 a0)), (1, .int a1)]) hx hb dX6_best_37 rfl hl (by decide) rfl (fun ls hl => ?_)
      refine lv_aload_n hx hb dX6_best_38 rfl (lv_at hl 1 rfl) ?_
      refine wk_getr (ci := 5) (k := 3) S hK hH j_X6 t0 rfl hq_5_3 (hts _ (wU_in _ m_219)) dX6_best_39 ?_
      obtain ⟨r29, h28, hq27, hf⟩ := bnd_ok hf
      refine wk_callVi (ci := 4) (b := (rF a0 3)) (As := []) (rest := []) S hK hN hH (tr_5_3 t0) (by decide) rfl (C_X4_orderFigures l X hI (tr_5_3 t0) _ _ _ hq27) (cwV 0 hts (gV wU_in m_502 m_503 m_504 m_38 m_505) rfl rfl rfl hdV_X4_orderFigures ⟨Nat.le_of_ble_eq_true rfl, Nat.le_of_ble_eq_true rfl⟩) hl.1 rfl rfl (Nat.le_of_ble_eq_true rfl) dX6_best_42 ⟨Nat.zero_le _, Nat.zero_le _⟩ (fun H locs hH => ?_)
      refine lv_istore_n (lv' := [(3, .int r29), (2, .int r26), (0, .ref (X.2.2.2 a0)), (1, .int a1)]) hx hb dX6_best_45 rfl hl (by decide) rfl (fun ls hl => ?_)
      refine lv_iconst (v := 1) hx hb dX6_best_46 (by decide) ?_
      refine lv_istore (lv' := [(4, .int ((1 : Int32))), (3, .int r29), (2, .int r26), (0, .ref (X.2.2.2 a0)), (1, .int a1)]) hx hb dX6_best_47 hl (by decide) rfl (fun ls hl => ?_)
      refine lv_iconst (v := 1) hx hb dX6_best_49 (by decide) ?_
      refine lv_istore (lv' := [(5, .int ((1 : Int32))), (4, .int ((1 : Int32))), (3, .int r29), (2, .int r26), (0, .ref (X.2.2.2 a0)), (1, .int a1)]) hx hb dX6_best_50 hl (by decide) rfl (fun ls hl => ?_)
      exact BL52 FU _ _ _ _ _ hf H locs ls (lv_sub hl [4, 5, 3, 2, 1, 0] rfl) hH
    · replace hf := ite_f c17 hf
      refine lv_bipush (v := (-2)) hx hb dX6_best_9 (by decide) ?_
      exact wk_iret S hr hlk hK hN hH hf dX6_best_11
set_option maxHeartbeats 4000000 in
set_option maxRecDepth 100000 in
theorem C_X6_withoutLastFours (l : Launch) (X : Cx) (hI : Inj X) (a0 : Int64) (a2 : Int32) (h : Hp) (r0 : Int64) (h0 : Hp) (hf : f_X6_withoutLastFours a0 a2 h = some (r0, h0)) : Ml l X yX6_withoutLastFours cX6_withoutLastFours 6 (some .long) 0 0 h [.long a0, .int a2] r0 h0 := by
  refine BD_of (own := RX6) hI rfl (by decide) (Nat.le_of_ble_eq_true rfl) ?_
  intro p e s m args below meth c S hr hlk hK hN
  obtain ⟨hx, hb, hml, hown, hts⟩ := id S
  have B5 : ∀ (k5 : Int64 → Int32 → Hp → Option (Int64 × Hp)) (hk5 : ∀ (x3 : Int64) (x5 : Int32) (h : Hp), k5 x3 x5 h = some (r0, h0) → BK p l e ({ frames := 0, cells := 0, slots := 0, locals := 0 }) s m args below meth c (MQ below (cQl X r0 h0) args s 0 0 (AD X)) X 6 5 [(2, .int a2), (3, .long x3), (5, .int x5)] [] h) (x3 : Int64) (x5 : Int32) (h : Hp), g_X6_withoutLastFours_5 a0 a2 k5 x3 x5 h = some (r0, h0) → BK p l e ({ frames := 0, cells := 0, slots := 0, locals := 0 }) s m args below meth c (MQ below (cQl X r0 h0) args s 0 0 (AD X)) X 6 5 [(2, .int a2), (3, .long x3), (5, .int x5)] [] h := by
    intro k5 hk5 x3 x5 h hf H locs ls hl hH
    unfold g_X6_withoutLastFours_5 at hf
    refine lv_iload hx hb dX6_withoutLastFours_5 (lv_at hl 2 rfl) ?_
    refine lv_iload_n hx hb dX6_withoutLastFours_7 rfl (lv_at hl 0 rfl) ?_
    refine lv_icmp_ge (tgt := 23) hx hb dX6_withoutLastFours_8 (by decide) (fun c1 => ?_) (fun c1 => ?_)
    · replace hf := ite_t c1 hf
      refine lv_lload_n hx hb dX6_withoutLastFours_23 rfl (lv_at hl 1 rfl) ?_
      exact wk_lret S hr hlk hK hN hH hf dX6_withoutLastFours_24
    · replace hf := ite_f c1 hf
      refine lv_lload_n hx hb dX6_withoutLastFours_11 rfl (lv_at hl 1 rfl) ?_
      refine lv_ldc2 hx hb hown (hts _ (wU_in _ m_518)) dX6_withoutLastFours_12 ?_
      refine lv_ldiv hx hb dX6_withoutLastFours_15 (by decide) ?_
      refine lv_lstore_n (lv' := [(3, .long ((x3 / (10000 : Int64)))), (2, .int a2), (5, .int x5)]) hx hb dX6_withoutLastFours_16 rfl hl (by decide) rfl (fun ls hl => ?_)
      refine lv_iinc (v := (x5 + (1 : Int32))) (lv' := [(5, .int ((x5 + (1 : Int32)))), (3, .long ((x3 / (10000 : Int64)))), (2, .int a2)]) hx hb dX6_withoutLastFours_17 hl (k := 2) rfl rfl (by decide) rfl (fun ls hl => ?_)
      refine lv_goto (tgt := 5) hx hb dX6_withoutLastFours_20 (by decide) ?_
      exact hk5 _ _ _ hf H locs ls (lv_sub hl [2, 1, 0] rfl) hH
  have BL5 : ∀ (n : Nat) (x3 : Int64) (x5 : Int32) (h : Hp), f_X6_withoutLastFours_5 a0 a2 n x3 x5 h = some (r0, h0) → BK p l e ({ frames := 0, cells := 0, slots := 0, locals := 0 }) s m args below meth c (MQ below (cQl X r0 h0) args s 0 0 (AD X)) X 6 5 [(2, .int a2), (3, .long x3), (5, .int x5)] [] h := by
    intro n
    induction n with
    | zero => intro x3 x5 h hf; cases hf
    | succ n ih => intro x3 x5 h hf; exact B5 _ ih _ _ _ hf
  intro H locs ls hl hH
  replace hl : lv_has ls 6 [(0, .long a0), (2, .int a2)] := hl
  unfold f_X6_withoutLastFours at hf
  refine lv_lload_n hx hb dX6_withoutLastFours_0 rfl (lv_at hl 0 rfl) ?_
  refine lv_lstore_n (lv' := [(3, .long a0), (0, .long a0), (2, .int a2)]) hx hb dX6_withoutLastFours_1 rfl hl (by decide) rfl (fun ls hl => ?_)
  refine lv_iconst (v := 0) hx hb dX6_withoutLastFours_2 (by decide) ?_
  refine lv_istore (lv' := [(5, .int ((0 : Int32))), (3, .long a0), (0, .long a0), (2, .int a2)]) hx hb dX6_withoutLastFours_3 hl (by decide) rfl (fun ls hl => ?_)
  exact BL5 FU _ _ _ hf H locs ls (lv_sub hl [3, 1, 0] rfl) hH
set_option maxHeartbeats 4000000 in
set_option maxRecDepth 100000 in
theorem C_X6_canSwap (l : Launch) (X : Cx) (hI : Inj X) {a0 : Nat} (t0 : tY a0 = 5) (a1 : Int32) (a2 : Int32) (h : Hp) (r0 : Int32) (h0 : Hp) (hf : f_X6_canSwap a0 a1 a2 h = some (r0, h0)) : Mi l X yX6_canSwap cX6_canSwap 3 (some .boolean) 1 23 h [.ref (X.2.2.2 a0), .int a1, .int a2] r0 h0 := by
  refine BD_of (own := RX6) hI rfl (by decide) (Nat.le_of_ble_eq_true rfl) ?_
  intro p e s m args below meth c S hr hlk hK hN
  obtain ⟨hx, hb, hml, hown, hts⟩ := id S
  intro H locs ls hl hH
  replace hl : lv_has ls 3 [(0, .ref (X.2.2.2 a0)), (1, .int a1), (2, .int a2)] := hl
  unfold f_X6_canSwap at hf
  refine lv_aload_n hx hb dX6_canSwap_0 rfl (lv_at hl 0 rfl) ?_
  refine wk_getr (ci := 5) (k := 3) S hK hH j_X6 t0 rfl hq_5_3 (hts _ (wU_in _ m_219)) dX6_canSwap_1 ?_
  refine lv_iload_n hx hb dX6_canSwap_4 rfl (lv_at hl 1 rfl) ?_
  obtain ⟨r3, h2, hq1, hf⟩ := bnd_ok hf
  refine wk_callVi (ci := 4) (b := (rF a0 3)) (As := [.int a1]) (rest := []) S hK hN hH (tr_5_3 t0) (by decide) rfl (C_X4_hasChange l X hI (tr_5_3 t0) a1 _ _ _ hq1) (cwV 1 hts (gV wU_in m_403 m_404 m_405 m_38 m_406) rfl rfl rfl hdV_X4_hasChange ⟨Nat.le_of_ble_eq_true rfl, Nat.le_of_ble_eq_true rfl⟩) hl.1 rfl rfl (Nat.le_of_ble_eq_true rfl) dX6_canSwap_5 ⟨Nat.zero_le _, Nat.zero_le _⟩ (fun H locs hH => ?_)
  refine lv_if_eq (tgt := 22) hx hb dX6_canSwap_8 (by decide) (fun c4 => ?_) (fun c4 => ?_)
  · replace hf := ite_t c4 hf
    refine lv_iconst (v := 0) hx hb dX6_canSwap_22 (by decide) ?_
    exact wk_zret S hr hlk hK hN hH rfl hf dX6_canSwap_23
  · replace hf := ite_f c4 hf
    refine lv_aload_n hx hb dX6_canSwap_11 rfl (lv_at hl 0 rfl) ?_
    refine wk_getr (ci := 5) (k := 3) S hK hH j_X6 t0 rfl hq_5_3 (hts _ (wU_in _ m_219)) dX6_canSwap_12 ?_
    refine lv_iload_n hx hb dX6_canSwap_15 rfl (lv_at hl 2 rfl) ?_
    obtain ⟨r7, h6, hq5, hf⟩ := bnd_ok hf
    refine wk_callVi (ci := 4) (b := (rF a0 3)) (As := [.int a2]) (rest := []) S hK hN hH (tr_5_3 t0) (by decide) rfl (C_X4_hasChange l X hI (tr_5_3 t0) a2 _ _ _ hq5) (cwV 1 hts (gV wU_in m_403 m_404 m_405 m_38 m_406) rfl rfl rfl hdV_X4_hasChange ⟨Nat.le_of_ble_eq_true rfl, Nat.le_of_ble_eq_true rfl⟩) hl.1 rfl rfl (Nat.le_of_ble_eq_true rfl) dX6_canSwap_16 ⟨Nat.zero_le _, Nat.zero_le _⟩ (fun H locs hH => ?_)
    refine lv_if_ne (tgt := 24) hx hb dX6_canSwap_19 (by decide) (fun c8 => ?_) (fun c8 => ?_)
    · replace hf := ite_f c8 hf
      refine lv_aload_n hx hb dX6_canSwap_24 rfl (lv_at hl 0 rfl) ?_
      refine wk_getr (ci := 5) (k := 3) S hK hH j_X6 t0 rfl hq_5_3 (hts _ (wU_in _ m_219)) dX6_canSwap_25 ?_
      refine lv_iload_n hx hb dX6_canSwap_28 rfl (lv_at hl 1 rfl) ?_
      refine lv_iload_n hx hb dX6_canSwap_29 rfl (lv_at hl 2 rfl) ?_
      obtain ⟨h10, hq9, hf⟩ := bind_ok hf
      refine wk_callVv (ci := 4) (b := (rF a0 3)) (As := [.int a1, .int a2]) (rest := []) S hK hN hH (tr_5_3 t0) (by decide) rfl (C_X4_exchange l X hI (tr_5_3 t0) a1 a2 _ _ hq9) (cwV 2 hts (gV wU_in m_449 m_450 m_451 m_38 m_452) rfl rfl rfl hdV_X4_exchange ⟨Nat.le_of_ble_eq_true rfl, Nat.le_of_ble_eq_true rfl⟩) hl.1 rfl rfl (Nat.le_of_ble_eq_true rfl) dX6_canSwap_30 ⟨Nat.zero_le _, Nat.zero_le _⟩ (fun H locs hH => ?_)
      refine lv_iconst (v := 1) hx hb dX6_canSwap_33 (by decide) ?_
      exact wk_zret S hr hlk hK hN hH rfl hf dX6_canSwap_34
    · replace hf := ite_t c8 hf
      refine lv_iconst (v := 0) hx hb dX6_canSwap_22 (by decide) ?_
      exact wk_zret S hr hlk hK hN hH rfl hf dX6_canSwap_23
set_option maxHeartbeats 4000000 in
set_option maxRecDepth 100000 in
theorem C_X6_canSign (l : Launch) (X : Cx) (hI : Inj X) {a0 : Nat} (t0 : tY a0 = 5) (a1 : Int32) (a2 : Int32) (a3 : Int32) (h : Hp) (r0 : Int32) (h0 : Hp) (hf : f_X6_canSign a0 a1 a2 a3 h = some (r0, h0)) : Mi l X yX6_canSign cX6_canSign 4 (some .boolean) 1 23 h [.ref (X.2.2.2 a0), .int a1, .int a2, .int a3] r0 h0 := by
  refine BD_of (own := RX6) hI rfl (by decide) (Nat.le_of_ble_eq_true rfl) ?_
  intro p e s m args below meth c S hr hlk hK hN
  obtain ⟨hx, hb, hml, hown, hts⟩ := id S
  intro H locs ls hl hH
  replace hl : lv_has ls 4 [(0, .ref (X.2.2.2 a0)), (1, .int a1), (2, .int a2), (3, .int a3)] := hl
  unfold f_X6_canSign at hf
  refine lv_aload_n hx hb dX6_canSign_0 rfl (lv_at hl 0 rfl) ?_
  refine wk_getr (ci := 5) (k := 3) S hK hH j_X6 t0 rfl hq_5_3 (hts _ (wU_in _ m_219)) dX6_canSign_1 ?_
  refine lv_iload_n hx hb dX6_canSign_4 rfl (lv_at hl 1 rfl) ?_
  obtain ⟨r3, h2, hq1, hf⟩ := bnd_ok hf
  refine wk_callVi (ci := 4) (b := (rF a0 3)) (As := [.int a1]) (rest := []) S hK hN hH (tr_5_3 t0) (by decide) rfl (C_X4_hasChange l X hI (tr_5_3 t0) a1 _ _ _ hq1) (cwV 1 hts (gV wU_in m_403 m_404 m_405 m_38 m_406) rfl rfl rfl hdV_X4_hasChange ⟨Nat.le_of_ble_eq_true rfl, Nat.le_of_ble_eq_true rfl⟩) hl.1 rfl rfl (Nat.le_of_ble_eq_true rfl) dX6_canSign_5 ⟨Nat.zero_le _, Nat.zero_le _⟩ (fun H locs hH => ?_)
  refine lv_if_eq (tgt := 19) hx hb dX6_canSign_8 (by decide) (fun c4 => ?_) (fun c4 => ?_)
  · replace hf := ite_t c4 hf
    refine lv_iconst (v := 0) hx hb dX6_canSign_19 (by decide) ?_
    exact wk_zret S hr hlk hK hN hH rfl hf dX6_canSign_20
  · replace hf := ite_f c4 hf
    refine lv_iload_n hx hb dX6_canSign_11 rfl (lv_at hl 2 rfl) ?_
    refine lv_iload_n hx hb dX6_canSign_12 rfl (lv_at hl 3 rfl) ?_
    obtain ⟨r7, h6, hq5, hf⟩ := bnd_ok hf
    refine wk_callSi (As := [.int a2, .int a3]) (rest := []) S hK hN hH (C_X6_allowsSign l X hI a2 a3 _ _ _ hq5) (va_cwS 2 hts (gS wU_in m_461 m_295 m_35 m_296) rfl rfl rfl hdS_X6_allowsSign ⟨Nat.le_of_ble_eq_true rfl, Nat.le_of_ble_eq_true rfl⟩) hl.1 rfl rfl (Nat.le_of_ble_eq_true rfl) dX6_canSign_13 ⟨Nat.zero_le _, Nat.zero_le _⟩ (fun H locs hH => ?_)
    refine lv_if_ne (tgt := 21) hx hb dX6_canSign_16 (by decide) (fun c8 => ?_) (fun c8 => ?_)
    · replace hf := ite_f c8 hf
      refine lv_aload_n hx hb dX6_canSign_21 rfl (lv_at hl 0 rfl) ?_
      refine wk_getr (ci := 5) (k := 3) S hK hH j_X6 t0 rfl hq_5_3 (hts _ (wU_in _ m_219)) dX6_canSign_22 ?_
      refine lv_iload_n hx hb dX6_canSign_25 rfl (lv_at hl 1 rfl) ?_
      refine lv_iload_n hx hb dX6_canSign_26 rfl (lv_at hl 2 rfl) ?_
      refine lv_iload_n hx hb dX6_canSign_27 rfl (lv_at hl 3 rfl) ?_
      obtain ⟨h10, hq9, hf⟩ := bind_ok hf
      refine wk_callVv (ci := 4) (b := (rF a0 3)) (As := [.int a1, .int a2, .int a3]) (rest := []) S hK hN hH (tr_5_3 t0) (by decide) rfl (C_X4_putSign l X hI (tr_5_3 t0) a1 a2 a3 _ _ hq9) (cwV 3 hts (gV wU_in m_462 m_463 m_464 m_38 m_465) rfl rfl rfl hdV_X4_putSign ⟨Nat.le_of_ble_eq_true rfl, Nat.le_of_ble_eq_true rfl⟩) hl.1 rfl rfl (Nat.le_of_ble_eq_true rfl) dX6_canSign_28 ⟨Nat.zero_le _, Nat.zero_le _⟩ (fun H locs hH => ?_)
      refine lv_iconst (v := 1) hx hb dX6_canSign_31 (by decide) ?_
      exact wk_zret S hr hlk hK hN hH rfl hf dX6_canSign_32
    · replace hf := ite_t c8 hf
      refine lv_iconst (v := 0) hx hb dX6_canSign_19 (by decide) ?_
      exact wk_zret S hr hlk hK hN hH rfl hf dX6_canSign_20
set_option maxHeartbeats 4000000 in
set_option maxRecDepth 100000 in
theorem C_X6_canBe (l : Launch) (X : Cx) (hI : Inj X) {a0 : Nat} (t0 : tY a0 = 5) (a1 : Int32) (a2 : Int32) (a3 : Int32) (a4 : Int32) (h : Hp) (r0 : Int32) (h0 : Hp) (hf : f_X6_canBe a0 a1 a2 a3 a4 h = some (r0, h0)) : Mi l X yX6_canBe cX6_canBe 5 (some .boolean) 5 123 h [.ref (X.2.2.2 a0), .int a1, .int a2, .int a3, .int a4] r0 h0 := by
  refine BD_of (own := RX6) hI rfl (by decide) (Nat.le_of_ble_eq_true rfl) ?_
  intro p e s m args below meth c S hr hlk hK hN
  obtain ⟨hx, hb, hml, hown, hts⟩ := id S
  intro H locs ls hl hH
  replace hl : lv_has ls 5 [(0, .ref (X.2.2.2 a0)), (1, .int a1), (2, .int a2), (3, .int a3), (4, .int a4)] := hl
  unfold f_X6_canBe at hf
  refine lv_iload_n hx hb dX6_canBe_0 rfl (lv_at hl 1 rfl) ?_
  by_cases c1 : a1 = 1
  · replace hf := ite_t c1 hf
    refine lv_tableIn (off := 39) (tgt := 40) hx hb dX6_canBe_1 (by rw [c1]; decide) (by rw [c1]; decide) (by rw [c1]; decide) (by decide) ?_
    refine lv_iload_n hx hb dX6_canBe_40 rfl (lv_at hl 2 rfl) ?_
    refine lv_if_ne (tgt := 58) hx hb dX6_canBe_41 (by decide) (fun c2 => ?_) (fun c2 => ?_)
    · replace hf := ite_f c2 hf
      refine lv_iconst (v := 0) hx hb dX6_canBe_58 (by decide) ?_
      exact wk_zret S hr hlk hK hN hH rfl hf dX6_canBe_59
    · replace hf := ite_t c2 hf
      refine lv_aload_n hx hb dX6_canBe_44 rfl (lv_at hl 0 rfl) ?_
      refine lv_iload_n hx hb dX6_canBe_45 rfl (lv_at hl 3 rfl) ?_
      refine lv_iload hx hb dX6_canBe_46 (lv_at hl 4 rfl) ?_
      obtain ⟨r5, h4, hq3, hf⟩ := bnd_ok hf
      refine wk_callVi (ci := 5) (b := a0) (As := [.int a3, .int a4]) (rest := []) S hK hN hH t0 (by decide) rfl (C_X6_canSwap l X hI t0 a3 a4 _ _ _ hq3) (cwV 2 hts (gV wU_in m_523 m_525 m_10 m_35 m_526) rfl rfl rfl hdV_X6_canSwap ⟨Nat.le_of_ble_eq_true rfl, Nat.le_of_ble_eq_true rfl⟩) hl.1 rfl rfl (Nat.le_of_ble_eq_true rfl) dX6_canBe_48 ⟨Nat.zero_le _, Nat.zero_le _⟩ (fun H locs hH => ?_)
      refine lv_if_eq (tgt := 58) hx hb dX6_canBe_51 (by decide) (fun c6 => ?_) (fun c6 => ?_)
      · replace hf := ite_t c6 hf
        refine lv_iconst (v := 0) hx hb dX6_canBe_58 (by decide) ?_
        exact wk_zret S hr hlk hK hN hH rfl hf dX6_canBe_59
      · replace hf := ite_f c6 hf
        refine lv_iconst (v := 1) hx hb dX6_canBe_54 (by decide) ?_
        refine lv_goto (tgt := 59) hx hb dX6_canBe_55 (by decide) ?_
        exact wk_zret S hr hlk hK hN hH rfl hf dX6_canBe_59
  replace hf := ite_f c1 hf
  by_cases c7 : a1 = 2
  · replace hf := ite_t c7 hf
    refine lv_tableIn (off := 59) (tgt := 60) hx hb dX6_canBe_1 (by rw [c7]; decide) (by rw [c7]; decide) (by rw [c7]; decide) (by decide) ?_
    refine lv_aload_n hx hb dX6_canBe_60 rfl (lv_at hl 0 rfl) ?_
    refine lv_iload_n hx hb dX6_canBe_61 rfl (lv_at hl 2 rfl) ?_
    refine lv_iload_n hx hb dX6_canBe_62 rfl (lv_at hl 3 rfl) ?_
    refine lv_iload hx hb dX6_canBe_63 (lv_at hl 4 rfl) ?_
    obtain ⟨r10, h9, hq8, hf⟩ := bnd_ok hf
    refine wk_callVi (ci := 5) (b := a0) (As := [.int a2, .int a3, .int a4]) (rest := []) S hK hN hH t0 (by decide) rfl (C_X6_canSign l X hI t0 a2 a3 a4 _ _ _ hq8) (cwV 3 hts (gV wU_in m_527 m_529 m_11 m_35 m_530) rfl rfl rfl hdV_X6_canSign ⟨Nat.le_of_ble_eq_true rfl, Nat.le_of_ble_eq_true rfl⟩) hl.1 rfl rfl (Nat.le_of_ble_eq_true rfl) dX6_canBe_65 ⟨Nat.zero_le _, Nat.zero_le _⟩ (fun H locs hH => ?_)
    obtain ⟨o11, hf⟩ := ite_ok hf
    exact wk_zret S hr hlk hK hN hH (okZ_nar o11) hf dX6_canBe_68
  replace hf := ite_f c7 hf
  by_cases c12 : a1 = 3
  · replace hf := ite_t c12 hf
    refine lv_tableIn (off := 68) (tgt := 69) hx hb dX6_canBe_1 (by rw [c12]; decide) (by rw [c12]; decide) (by rw [c12]; decide) (by decide) ?_
    refine lv_aload_n hx hb dX6_canBe_69 rfl (lv_at hl 0 rfl) ?_
    refine wk_getr (ci := 5) (k := 1) S hK hH j_X6 t0 rfl hq_5_1 (hts _ (wU_in _ m_217)) dX6_canBe_70 ?_
    refine lv_iload_n hx hb dX6_canBe_73 rfl (lv_at hl 2 rfl) ?_
    refine lv_iload_n hx hb dX6_canBe_74 rfl (lv_at hl 3 rfl) ?_
    obtain ⟨r15, h14, hq13, hf⟩ := bnd_ok hf
    refine wk_callVi (ci := 2) (b := (rF a0 1)) (As := [.int a2, .int a3]) (rest := []) S hK hN hH (tr_5_1 t0) (by decide) rfl (C_X2_hasPair l X hI (tr_5_1 t0) a2 a3 _ _ _ hq13) (cwV 2 hts (gV wU_in m_419 m_420 m_421 m_37 m_422) rfl rfl rfl hdV_X2_hasPair ⟨Nat.le_of_ble_eq_true rfl, Nat.le_of_ble_eq_true rfl⟩) hl.1 rfl rfl (Nat.le_of_ble_eq_true rfl) dX6_canBe_75 ⟨Nat.zero_le _, Nat.zero_le _⟩ (fun H locs hH => ?_)
    refine lv_if_eq (tgt := 102) hx hb dX6_canBe_78 (by decide) (fun c16 => ?_) (fun c16 => ?_)
    · replace hf := ite_t c16 hf
      refine lv_iconst (v := 0) hx hb dX6_canBe_102 (by decide) ?_
      exact wk_zret S hr hlk hK hN hH rfl hf dX6_canBe_103
    · replace hf := ite_f c16 hf
      refine lv_aload_n hx hb dX6_canBe_81 rfl (lv_at hl 0 rfl) ?_
      refine wk_getr (ci := 5) (k := 3) S hK hH j_X6 t0 rfl hq_5_3 (hts _ (wU_in _ m_219)) dX6_canBe_82 ?_
      refine lv_iload_n hx hb dX6_canBe_85 rfl (lv_at hl 2 rfl) ?_
      refine lv_iload_n hx hb dX6_canBe_86 rfl (lv_at hl 3 rfl) ?_
      obtain ⟨r19, h18, hq17, hf⟩ := bnd_ok hf
      refine wk_callVi (ci := 4) (b := (rF a0 3)) (As := [.int a2, .int a3]) (rest := []) S hK hN hH (tr_5_3 t0) (by decide) rfl (C_X4_makeOf l X hI (tr_5_3 t0) a2 a3 _ _ _ hq17) (cwV 2 hts (gV wU_in m_425 m_376 m_377 m_38 m_378) rfl rfl rfl hdV_X4_makeOf ⟨Nat.le_of_ble_eq_true rfl, Nat.le_of_ble_eq_true rfl⟩) hl.1 rfl rfl (Nat.le_of_ble_eq_true rfl) dX6_canBe_87 ⟨Nat.zero_le _, Nat.zero_le _⟩ (fun H locs hH => ?_)
      obtain ⟨r22, h21, hq20, hf⟩ := bnd_ok hf
      refine wk_callSi (As := [.int r19]) (rest := []) S hK hN hH (C_X5_lengthOf l X hI r19 _ _ _ hq20) (va_cwS 1 hts (gS wU_in m_531 m_532 m_43 m_533) rfl rfl rfl hdS_X5_lengthOf ⟨Nat.le_of_ble_eq_true rfl, Nat.le_of_ble_eq_true rfl⟩) hl.1 rfl rfl (Nat.le_of_ble_eq_true rfl) dX6_canBe_90 ⟨Nat.zero_le _, Nat.zero_le _⟩ (fun H locs hH => ?_)
      refine lv_iload hx hb dX6_canBe_93 (lv_at hl 4 rfl) ?_
      refine lv_icmp_ne (tgt := 102) hx hb dX6_canBe_95 (by decide) (fun c23 => ?_) (fun c23 => ?_)
      · replace hf := ite_f c23 hf
        refine lv_iconst (v := 0) hx hb dX6_canBe_102 (by decide) ?_
        exact wk_zret S hr hlk hK hN hH rfl hf dX6_canBe_103
      · replace hf := ite_t c23 hf
        refine lv_iconst (v := 1) hx hb dX6_canBe_98 (by decide) ?_
        refine lv_goto (tgt := 103) hx hb dX6_canBe_99 (by decide) ?_
        exact wk_zret S hr hlk hK hN hH rfl hf dX6_canBe_103
  replace hf := ite_f c12 hf
  by_cases c24 : a1 = 4
  · replace hf := ite_t c24 hf
    refine lv_tableIn (off := 103) (tgt := 104) hx hb dX6_canBe_1 (by rw [c24]; decide) (by rw [c24]; decide) (by rw [c24]; decide) (by decide) ?_
    refine lv_iload_n hx hb dX6_canBe_104 rfl (lv_at hl 2 rfl) ?_
    refine lv_if_ne (tgt := 148) hx hb dX6_canBe_105 (by decide) (fun c25 => ?_) (fun c25 => ?_)
    · replace hf := ite_f c25 hf
      refine lv_iconst (v := 0) hx hb dX6_canBe_148 (by decide) ?_
      exact wk_zret S hr hlk hK hN hH rfl hf dX6_canBe_149
    · replace hf := ite_t c25 hf
      refine lv_aload_n hx hb dX6_canBe_108 rfl (lv_at hl 0 rfl) ?_
      refine wk_getr (ci := 5) (k := 3) S hK hH j_X6 t0 rfl hq_5_3 (hts _ (wU_in _ m_219)) dX6_canBe_109 ?_
      refine lv_iload_n hx hb dX6_canBe_112 rfl (lv_at hl 3 rfl) ?_
      obtain ⟨r28, h27, hq26, hf⟩ := bnd_ok hf
      refine wk_callVi (ci := 4) (b := (rF a0 3)) (As := [.int a3]) (rest := []) S hK hN hH (tr_5_3 t0) (by decide) rfl (C_X4_hasChange l X hI (tr_5_3 t0) a3 _ _ _ hq26) (cwV 1 hts (gV wU_in m_403 m_404 m_405 m_38 m_406) rfl rfl rfl hdV_X4_hasChange ⟨Nat.le_of_ble_eq_true rfl, Nat.le_of_ble_eq_true rfl⟩) hl.1 rfl rfl (Nat.le_of_ble_eq_true rfl) dX6_canBe_113 ⟨Nat.zero_le _, Nat.zero_le _⟩ (fun H locs hH => ?_)
      refine lv_if_eq (tgt := 148) hx hb dX6_canBe_116 (by decide) (fun c29 => ?_) (fun c29 => ?_)
      · replace hf := ite_t c29 hf
        refine lv_iconst (v := 0) hx hb dX6_canBe_148 (by decide) ?_
        exact wk_zret S hr hlk hK hN hH rfl hf dX6_canBe_149
      · replace hf := ite_f c29 hf
        refine lv_aload_n hx hb dX6_canBe_119 rfl (lv_at hl 0 rfl) ?_
        refine wk_getr (ci := 5) (k := 3) S hK hH j_X6 t0 rfl hq_5_3 (hts _ (wU_in _ m_219)) dX6_canBe_120 ?_
        refine lv_iload hx hb dX6_canBe_123 (lv_at hl 4 rfl) ?_
        obtain ⟨r32, h31, hq30, hf⟩ := bnd_ok hf
        refine wk_callVi (ci := 4) (b := (rF a0 3)) (As := [.int a4]) (rest := []) S hK hN hH (tr_5_3 t0) (by decide) rfl (C_X4_hasChange l X hI (tr_5_3 t0) a4 _ _ _ hq30) (cwV 1 hts (gV wU_in m_403 m_404 m_405 m_38 m_406) rfl rfl rfl hdV_X4_hasChange ⟨Nat.le_of_ble_eq_true rfl, Nat.le_of_ble_eq_true rfl⟩) hl.1 rfl rfl (Nat.le_of_ble_eq_true rfl) dX6_canBe_125 ⟨Nat.zero_le _, Nat.zero_le _⟩ (fun H locs hH => ?_)
        refine lv_if_eq (tgt := 148) hx hb dX6_canBe_128 (by decide) (fun c33 => ?_) (fun c33 => ?_)
        · replace hf := ite_t c33 hf
          refine lv_iconst (v := 0) hx hb dX6_canBe_148 (by decide) ?_
          exact wk_zret S hr hlk hK hN hH rfl hf dX6_canBe_149
        · replace hf := ite_f c33 hf
          refine lv_aload_n hx hb dX6_canBe_131 rfl (lv_at hl 0 rfl) ?_
          refine wk_getr (ci := 5) (k := 3) S hK hH j_X6 t0 rfl hq_5_3 (hts _ (wU_in _ m_219)) dX6_canBe_132 ?_
          refine lv_iload_n hx hb dX6_canBe_135 rfl (lv_at hl 3 rfl) ?_
          refine lv_iload hx hb dX6_canBe_136 (lv_at hl 4 rfl) ?_
          obtain ⟨r36, h35, hq34, hf⟩ := bnd_ok hf
          refine wk_callVi (ci := 4) (b := (rF a0 3)) (As := [.int a3, .int a4]) (rest := []) S hK hN hH (tr_5_3 t0) (by decide) rfl (C_X4_doCross l X hI (tr_5_3 t0) a3 a4 _ _ _ hq34) (cwV 2 hts (gV wU_in m_489 m_490 m_491 m_38 m_492) rfl rfl rfl hdV_X4_doCross ⟨Nat.le_of_ble_eq_true rfl, Nat.le_of_ble_eq_true rfl⟩) hl.1 rfl rfl (Nat.le_of_ble_eq_true rfl) dX6_canBe_138 ⟨Nat.zero_le _, Nat.zero_le _⟩ (fun H locs hH => ?_)
          refine lv_if_eq (tgt := 148) hx hb dX6_canBe_141 (by decide) (fun c37 => ?_) (fun c37 => ?_)
          · replace hf := ite_t c37 hf
            refine lv_iconst (v := 0) hx hb dX6_canBe_148 (by decide) ?_
            exact wk_zret S hr hlk hK hN hH rfl hf dX6_canBe_149
          · replace hf := ite_f c37 hf
            refine lv_iconst (v := 1) hx hb dX6_canBe_144 (by decide) ?_
            refine lv_goto (tgt := 149) hx hb dX6_canBe_145 (by decide) ?_
            exact wk_zret S hr hlk hK hN hH rfl hf dX6_canBe_149
  replace hf := ite_f c24 hf
  by_cases c38 : a1 = 5
  · replace hf := ite_t c38 hf
    refine lv_tableIn (off := 149) (tgt := 150) hx hb dX6_canBe_1 (by rw [c38]; decide) (by rw [c38]; decide) (by rw [c38]; decide) (by decide) ?_
    refine lv_aload_n hx hb dX6_canBe_150 rfl (lv_at hl 0 rfl) ?_
    refine wk_getr (ci := 5) (k := 3) S hK hH j_X6 t0 rfl hq_5_3 (hts _ (wU_in _ m_219)) dX6_canBe_151 ?_
    refine lv_iload_n hx hb dX6_canBe_154 rfl (lv_at hl 2 rfl) ?_
    obtain ⟨r41, h40, hq39, hf⟩ := bnd_ok hf
    refine wk_callVi (ci := 4) (b := (rF a0 3)) (As := [.int a2]) (rest := []) S hK hN hH (tr_5_3 t0) (by decide) rfl (C_X4_hasChange l X hI (tr_5_3 t0) a2 _ _ _ hq39) (cwV 1 hts (gV wU_in m_403 m_404 m_405 m_38 m_406) rfl rfl rfl hdV_X4_hasChange ⟨Nat.le_of_ble_eq_true rfl, Nat.le_of_ble_eq_true rfl⟩) hl.1 rfl rfl (Nat.le_of_ble_eq_true rfl) dX6_canBe_155 ⟨Nat.zero_le _, Nat.zero_le _⟩ (fun H locs hH => ?_)
    refine lv_if_eq (tgt := 188) hx hb dX6_canBe_158 (by decide) (fun c42 => ?_) (fun c42 => ?_)
    · replace hf := ite_t c42 hf
      refine lv_iconst (v := 0) hx hb dX6_canBe_188 (by decide) ?_
      exact wk_zret S hr hlk hK hN hH rfl hf dX6_canBe_189
    · replace hf := ite_f c42 hf
      refine lv_iload_n hx hb dX6_canBe_161 rfl (lv_at hl 3 rfl) ?_
      refine lv_if_ne (tgt := 188) hx hb dX6_canBe_162 (by decide) (fun c43 => ?_) (fun c43 => ?_)
      · replace hf := ite_f c43 hf
        refine lv_iconst (v := 0) hx hb dX6_canBe_188 (by decide) ?_
        exact wk_zret S hr hlk hK hN hH rfl hf dX6_canBe_189
      · replace hf := ite_t c43 hf
        refine lv_iload hx hb dX6_canBe_165 (lv_at hl 4 rfl) ?_
        refine lv_if_ne (tgt := 188) hx hb dX6_canBe_167 (by decide) (fun c44 => ?_) (fun c44 => ?_)
        · replace hf := ite_f c44 hf
          refine lv_iconst (v := 0) hx hb dX6_canBe_188 (by decide) ?_
          exact wk_zret S hr hlk hK hN hH rfl hf dX6_canBe_189
        · replace hf := ite_t c44 hf
          refine lv_aload_n hx hb dX6_canBe_170 rfl (lv_at hl 0 rfl) ?_
          refine wk_getr (ci := 5) (k := 3) S hK hH j_X6 t0 rfl hq_5_3 (hts _ (wU_in _ m_219)) dX6_canBe_171 ?_
          obtain ⟨r47, h46, hq45, hf⟩ := bnd_ok hf
          refine wk_callVi (ci := 4) (b := (rF a0 3)) (As := []) (rest := []) S hK hN hH (tr_5_3 t0) (by decide) rfl (C_X4_activeChanges l X hI (tr_5_3 t0) _ _ _ hq45) (cwV 0 hts (gV wU_in m_359 m_360 m_361 m_38 m_362) rfl rfl rfl hdV_X4_activeChanges ⟨Nat.le_of_ble_eq_true rfl, Nat.le_of_ble_eq_true rfl⟩) hl.1 rfl rfl (Nat.le_of_ble_eq_true rfl) dX6_canBe_174 ⟨Nat.zero_le _, Nat.zero_le _⟩ (fun H locs hH => ?_)
          refine lv_iconst (v := 1) hx hb dX6_canBe_177 (by decide) ?_
          refine lv_iload_n hx hb dX6_canBe_178 rfl (lv_at hl 2 rfl) ?_
          refine lv_ishl hx hb dX6_canBe_179 ?_
          refine lv_iand hx hb dX6_canBe_180 ?_
          refine lv_if_eq (tgt := 188) hx hb dX6_canBe_181 (by decide) (fun c48 => ?_) (fun c48 => ?_)
          · replace hf := ite_t c48 hf
            refine lv_iconst (v := 0) hx hb dX6_canBe_188 (by decide) ?_
            exact wk_zret S hr hlk hK hN hH rfl hf dX6_canBe_189
          · replace hf := ite_f c48 hf
            refine lv_iconst (v := 1) hx hb dX6_canBe_184 (by decide) ?_
            refine lv_goto (tgt := 189) hx hb dX6_canBe_185 (by decide) ?_
            exact wk_zret S hr hlk hK hN hH rfl hf dX6_canBe_189
  replace hf := ite_f c38 hf
  by_cases c49 : a1 = 6
  · replace hf := ite_t c49 hf
    refine lv_tableIn (off := 189) (tgt := 190) hx hb dX6_canBe_1 (by rw [c49]; decide) (by rw [c49]; decide) (by rw [c49]; decide) (by decide) ?_
    refine lv_iload_n hx hb dX6_canBe_190 rfl (lv_at hl 2 rfl) ?_
    refine lv_if_ne (tgt := 214) hx hb dX6_canBe_191 (by decide) (fun c50 => ?_) (fun c50 => ?_)
    · replace hf := ite_f c50 hf
      refine lv_iconst (v := 0) hx hb dX6_canBe_214 (by decide) ?_
      exact wk_zret S hr hlk hK hN hH rfl hf dX6_canBe_215
    · replace hf := ite_t c50 hf
      refine lv_iload_n hx hb dX6_canBe_194 rfl (lv_at hl 3 rfl) ?_
      refine lv_if_ne (tgt := 214) hx hb dX6_canBe_195 (by decide) (fun c51 => ?_) (fun c51 => ?_)
      · replace hf := ite_f c51 hf
        refine lv_iconst (v := 0) hx hb dX6_canBe_214 (by decide) ?_
        exact wk_zret S hr hlk hK hN hH rfl hf dX6_canBe_215
      · replace hf := ite_t c51 hf
        refine lv_aload_n hx hb dX6_canBe_198 rfl (lv_at hl 0 rfl) ?_
        refine wk_getr (ci := 5) (k := 3) S hK hH j_X6 t0 rfl hq_5_3 (hts _ (wU_in _ m_219)) dX6_canBe_199 ?_
        obtain ⟨r54, h53, hq52, hf⟩ := bnd_ok hf
        refine wk_callVi (ci := 4) (b := (rF a0 3)) (As := []) (rest := []) S hK hN hH (tr_5_3 t0) (by decide) rfl (C_X4_exceptions l X hI (tr_5_3 t0) _ _ _ hq52) (cwV 0 hts (gV wU_in m_367 m_368 m_369 m_38 m_370) rfl rfl rfl hdV_X4_exceptions ⟨Nat.le_of_ble_eq_true rfl, Nat.le_of_ble_eq_true rfl⟩) hl.1 rfl rfl (Nat.le_of_ble_eq_true rfl) dX6_canBe_202 ⟨Nat.zero_le _, Nat.zero_le _⟩ (fun H locs hH => ?_)
        refine lv_iload hx hb dX6_canBe_205 (lv_at hl 4 rfl) ?_
        refine lv_icmp_gt (tgt := 214) hx hb dX6_canBe_207 (by decide) (fun c55 => ?_) (fun c55 => ?_)
        · replace hf := ite_t c55 hf
          refine lv_iconst (v := 0) hx hb dX6_canBe_214 (by decide) ?_
          exact wk_zret S hr hlk hK hN hH rfl hf dX6_canBe_215
        · replace hf := ite_f c55 hf
          refine lv_iconst (v := 1) hx hb dX6_canBe_210 (by decide) ?_
          refine lv_goto (tgt := 215) hx hb dX6_canBe_211 (by decide) ?_
          exact wk_zret S hr hlk hK hN hH rfl hf dX6_canBe_215
  replace hf := ite_f c49 hf
  have ec1 := lv_neT (a := 1) c1 (by decide)
  have ec7 := lv_neT (a := 2) c7 (by decide)
  have ec12 := lv_neT (a := 3) c12 (by decide)
  have ec24 := lv_neT (a := 4) c24 (by decide)
  have ec38 := lv_neT (a := 5) c38 (by decide)
  have ec49 := lv_neT (a := 6) c49 (by decide)
  refine lv_tableOut (tgt := 216) hx hb dX6_canBe_1 (by omega) (by decide) ?_
  refine lv_iconst (v := 0) hx hb dX6_canBe_216 (by decide) ?_
  exact wk_zret S hr hlk hK hN hH rfl hf dX6_canBe_217
set_option maxHeartbeats 4000000 in
set_option maxRecDepth 100000 in
theorem C_X6_judge (l : Launch) (X : Cx) (hI : Inj X) {a0 : Nat} (t0 : tY a0 = 5) (a1 : Int32) (a2 : Int64) (h : Hp) (r0 : Int32) (h0 : Hp) (hf : f_X6_judge a0 a1 a2 h = some (r0, h0)) : Mi l X yX6_judge cX6_judge 6 (some .int) 6 147 h [.ref (X.2.2.2 a0), .int a1, .long a2] r0 h0 := by
  refine BD_of (own := RX6) hI rfl (by decide) (Nat.le_of_ble_eq_true rfl) ?_
  intro p e s m args below meth c S hr hlk hK hN
  obtain ⟨hx, hb, hml, hown, hts⟩ := id S
  have B43 : ∀ (k43 : Int32 → Hp → Option (Int32 × Hp)) (hk43 : ∀ (x4 : Int32) (h : Hp), k43 x4 h = some (r0, h0) → BK p l e ({ frames := 6, cells := 0, slots := 0, locals := 147 }) s m args below meth c (MQ below (cQi X r0 h0) args s 0 0 (AD X)) X 6 43 [(0, .ref (X.2.2.2 a0)), (1, .int a1), (2, .long a2), (4, .int x4)] [] h) (x4 : Int32) (h : Hp), g_X6_judge_43 a0 a1 a2 k43 x4 h = some (r0, h0) → BK p l e ({ frames := 6, cells := 0, slots := 0, locals := 147 }) s m args below meth c (MQ below (cQi X r0 h0) args s 0 0 (AD X)) X 6 43 [(0, .ref (X.2.2.2 a0)), (1, .int a1), (2, .long a2), (4, .int x4)] [] h := by
    intro k43 hk43 x4 h hf H locs ls hl hH
    unfold g_X6_judge_43 at hf
    refine lv_iload hx hb dX6_judge_43 (lv_at hl 3 rfl) ?_
    refine lv_iload_n hx hb dX6_judge_45 rfl (lv_at hl 1 rfl) ?_
    refine lv_icmp_ge (tgt := 109) hx hb dX6_judge_46 (by decide) (fun c1 => ?_) (fun c1 => ?_)
    · replace hf := ite_t c1 hf
      refine lv_bipush (v := (-9)) hx hb dX6_judge_109 (by decide) ?_
      exact wk_iret S hr hlk hK hN hH hf dX6_judge_111
    · replace hf := ite_f c1 hf
      refine lv_lload_n hx hb dX6_judge_49 rfl (lv_at hl 2 rfl) ?_
      refine lv_iload_n hx hb dX6_judge_50 rfl (lv_at hl 1 rfl) ?_
      refine lv_iconst (v := 1) hx hb dX6_judge_51 (by decide) ?_
      refine lv_isub hx hb dX6_judge_52 ?_
      refine lv_iload hx hb dX6_judge_53 (lv_at hl 3 rfl) ?_
      refine lv_isub hx hb dX6_judge_55 ?_
      obtain ⟨r4, h3, hq2, hf⟩ := bnd_ok hf
      refine wk_callSl (As := [.long a2, .int (((a1 - (1 : Int32)) - x4))]) (rest := []) S hK hN hH (C_X6_withoutLastFours l X hI a2 ((a1 - (1 : Int32)) - x4) _ _ _ hq2) (va_cwS 2 hts (gS wU_in m_515 m_516 m_35 m_517) rfl rfl rfl hdS_X6_withoutLastFours ⟨Nat.le_of_ble_eq_true rfl, Nat.le_of_ble_eq_true rfl⟩) hl.1 rfl rfl (Nat.le_of_ble_eq_true rfl) dX6_judge_56 ⟨Nat.zero_le _, Nat.zero_le _⟩ (fun H locs hH => ?_)
      refine lv_ldc2 hx hb hown (hts _ (wU_in _ m_518)) dX6_judge_59 ?_
      refine lv_lrem hx hb dX6_judge_62 (by decide) ?_
      refine lv_l2i hx hb dX6_judge_63 rfl ?_
      refine lv_istore (lv' := [(5, .int (((r4 - r4 / (10000 : Int64) * (10000 : Int64))).toInt32)), (0, .ref (X.2.2.2 a0)), (1, .int a1), (2, .long a2), (4, .int x4)]) hx hb dX6_judge_64 hl (by decide) rfl (fun ls hl => ?_)
      refine lv_aload_n hx hb dX6_judge_66 rfl (lv_at hl 1 rfl) ?_
      refine lv_iload hx hb dX6_judge_67 (lv_at hl 0 rfl) ?_
      refine lv_sipush (v := 1000) hx hb dX6_judge_69 (by decide) ?_
      refine lv_idiv hx hb dX6_judge_72 (by decide) ?_
      refine lv_iload hx hb dX6_judge_73 (lv_at hl 0 rfl) ?_
      refine lv_bipush (v := 100) hx hb dX6_judge_75 (by decide) ?_
      refine lv_idiv hx hb dX6_judge_77 (by decide) ?_
      refine lv_bipush (v := 10) hx hb dX6_judge_78 (by decide) ?_
      refine lv_irem hx hb dX6_judge_80 (by decide) ?_
      refine lv_iload hx hb dX6_judge_81 (lv_at hl 0 rfl) ?_
      refine lv_bipush (v := 10) hx hb dX6_judge_83 (by decide) ?_
      refine lv_idiv hx hb dX6_judge_85 (by decide) ?_
      refine lv_bipush (v := 10) hx hb dX6_judge_86 (by decide) ?_
      refine lv_irem hx hb dX6_judge_88 (by decide) ?_
      refine lv_iload hx hb dX6_judge_89 (lv_at hl 0 rfl) ?_
      refine lv_bipush (v := 10) hx hb dX6_judge_91 (by decide) ?_
      refine lv_irem hx hb dX6_judge_93 (by decide) ?_
      obtain ⟨r7, h6, hq5, hf⟩ := bnd_ok hf
      refine wk_callVi (ci := 5) (b := a0) (As := [.int (((((r4 - r4 / (10000 : Int64) * (10000 : Int64))).toInt32) / (1000 : Int32))), .int ((((((r4 - r4 / (10000 : Int64) * (10000 : Int64))).toInt32) / (100 : Int32)) - ((((r4 - r4 / (10000 : Int64) * (10000 : Int64))).toInt32) / (100 : Int32)) / (10 : Int32) * (10 : Int32))), .int ((((((r4 - r4 / (10000 : Int64) * (10000 : Int64))).toInt32) / (10 : Int32)) - ((((r4 - r4 / (10000 : Int64) * (10000 : Int64))).toInt32) / (10 : Int32)) / (10 : Int32) * (10 : Int32))), .int (((((r4 - r4 / (10000 : Int64) * (10000 : Int64))).toInt32) - (((r4 - r4 / (10000 : Int64) * (10000 : Int64))).toInt32) / (10 : Int32) * (10 : Int32)))]) (rest := []) S hK hN hH t0 (by decide) rfl (C_X6_canBe l X hI t0 ((((r4 - r4 / (10000 : Int64) * (10000 : Int64))).toInt32) / (1000 : Int32)) (((((r4 - r4 / (10000 : Int64) * (10000 : Int64))).toInt32) / (100 : Int32)) - ((((r4 - r4 / (10000 : Int64) * (10000 : Int64))).toInt32) / (100 : Int32)) / (10 : Int32) * (10 : Int32)) (((((r4 - r4 / (10000 : Int64) * (10000 : Int64))).toInt32) / (10 : Int32)) - ((((r4 - r4 / (10000 : Int64) * (10000 : Int64))).toInt32) / (10 : Int32)) / (10 : Int32) * (10 : Int32)) ((((r4 - r4 / (10000 : Int64) * (10000 : Int64))).toInt32) - (((r4 - r4 / (10000 : Int64) * (10000 : Int64))).toInt32) / (10 : Int32) * (10 : Int32)) _ _ _ hq5) (cwV 4 hts (gV wU_in m_519 m_521 m_9 m_35 m_522) rfl rfl rfl hdV_X6_canBe ⟨Nat.le_of_ble_eq_true rfl, Nat.le_of_ble_eq_true rfl⟩) hl.1 rfl rfl (Nat.le_of_ble_eq_true rfl) dX6_judge_94 ⟨Nat.zero_le _, Nat.zero_le _⟩ (fun H locs hH => ?_)
      refine lv_if_ne (tgt := 103) hx hb dX6_judge_97 (by decide) (fun c8 => ?_) (fun c8 => ?_)
      · replace hf := ite_f c8 hf
        refine lv_iinc (v := (x4 + (1 : Int32))) (lv' := [(4, .int ((x4 + (1 : Int32)))), (5, .int (((r4 - r4 / (10000 : Int64) * (10000 : Int64))).toInt32)), (0, .ref (X.2.2.2 a0)), (1, .int a1), (2, .long a2)]) hx hb dX6_judge_103 hl (k := 4) rfl rfl (by decide) rfl (fun ls hl => ?_)
        refine lv_goto (tgt := 43) hx hb dX6_judge_106 (by decide) ?_
        exact hk43 _ _ hf H locs ls (lv_sub hl [2, 3, 4, 0] rfl) hH
      · replace hf := ite_t c8 hf
        refine lv_iload hx hb dX6_judge_100 (lv_at hl 4 rfl) ?_
        exact wk_iret S hr hlk hK hN hH hf dX6_judge_102
  have BL43 : ∀ (n : Nat) (x4 : Int32) (h : Hp), f_X6_judge_43 a0 a1 a2 n x4 h = some (r0, h0) → BK p l e ({ frames := 6, cells := 0, slots := 0, locals := 147 }) s m args below meth c (MQ below (cQi X r0 h0) args s 0 0 (AD X)) X 6 43 [(0, .ref (X.2.2.2 a0)), (1, .int a1), (2, .long a2), (4, .int x4)] [] h := by
    intro n
    induction n with
    | zero => intro x4 h hf; cases hf
    | succ n ih => intro x4 h hf; exact B43 _ ih _ _ hf
  intro H locs ls hl hH
  replace hl : lv_has ls 6 [(0, .ref (X.2.2.2 a0)), (1, .int a1), (2, .long a2)] := hl
  unfold f_X6_judge at hf
  refine lv_iload_n hx hb dX6_judge_0 rfl (lv_at hl 1 rfl) ?_
  refine lv_iconst (v := 1) hx hb dX6_judge_1 (by decide) ?_
  refine lv_icmp_lt (tgt := 26) hx hb dX6_judge_2 (by decide) (fun c9 => ?_) (fun c9 => ?_)
  · replace hf := ite_t c9 hf
    refine lv_bipush (v := (-2)) hx hb dX6_judge_26 (by decide) ?_
    exact wk_iret S hr hlk hK hN hH hf dX6_judge_28
  · replace hf := ite_f c9 hf
    refine lv_iload_n hx hb dX6_judge_5 rfl (lv_at hl 1 rfl) ?_
    refine lv_iconst (v := 4) hx hb dX6_judge_6 (by decide) ?_
    refine lv_icmp_gt (tgt := 26) hx hb dX6_judge_7 (by decide) (fun c10 => ?_) (fun c10 => ?_)
    · replace hf := ite_t c10 hf
      refine lv_bipush (v := (-2)) hx hb dX6_judge_26 (by decide) ?_
      exact wk_iret S hr hlk hK hN hH hf dX6_judge_28
    · replace hf := ite_f c10 hf
      refine lv_lload_n hx hb dX6_judge_10 rfl (lv_at hl 2 rfl) ?_
      refine lv_lconst (v := 0) hx hb dX6_judge_11 (by decide) ?_
      refine W.lcmp hx hb dX6_judge_12 ?_
      refine lv_if_lt (tgt := 26) hx hb dX6_judge_13 (by decide) (fun c11 => ?_) (fun c11 => ?_)
      · replace hf := ite_t c11 hf
        refine lv_bipush (v := (-2)) hx hb dX6_judge_26 (by decide) ?_
        exact wk_iret S hr hlk hK hN hH hf dX6_judge_28
      · replace hf := ite_f c11 hf
        refine lv_lload_n hx hb dX6_judge_16 rfl (lv_at hl 2 rfl) ?_
        refine lv_iload_n hx hb dX6_judge_17 rfl (lv_at hl 1 rfl) ?_
        obtain ⟨r14, h13, hq12, hf⟩ := bnd_ok hf
        refine wk_callSl (As := [.long a2, .int a1]) (rest := []) S hK hN hH (C_X6_withoutLastFours l X hI a2 a1 _ _ _ hq12) (va_cwS 2 hts (gS wU_in m_515 m_516 m_35 m_517) rfl rfl rfl hdS_X6_withoutLastFours ⟨Nat.le_of_ble_eq_true rfl, Nat.le_of_ble_eq_true rfl⟩) hl.1 rfl rfl (Nat.le_of_ble_eq_true rfl) dX6_judge_18 ⟨Nat.zero_le _, Nat.zero_le _⟩ (fun H locs hH => ?_)
        refine lv_lconst (v := 0) hx hb dX6_judge_21 (by decide) ?_
        refine W.lcmp hx hb dX6_judge_22 ?_
        refine lv_if_eq (tgt := 29) hx hb dX6_judge_23 (by decide) (fun c15 => ?_) (fun c15 => ?_)
        · replace hf := ite_t c15 hf
          refine lv_aload_n hx hb dX6_judge_29 rfl (lv_at hl 0 rfl) ?_
          refine wk_getr (ci := 5) (k := 3) S hK hH j_X6 t0 rfl hq_5_3 (hts _ (wU_in _ m_219)) dX6_judge_30 ?_
          refine lv_aload_n hx hb dX6_judge_33 rfl (lv_at hl 0 rfl) ?_
          refine wk_getr (ci := 5) (k := 2) S hK hH j_X6 t0 rfl hq_5_2 (hts _ (wU_in _ m_218)) dX6_judge_34 ?_
          obtain ⟨h17, hq16, hf⟩ := bind_ok hf
          refine wk_callVv (ci := 4) (b := (rF a0 3)) (As := [.ref (X.2.2.2 (rF a0 2))]) (rest := []) S hK hN hH (tr_5_3 t0) (by decide) rfl (C_X4_takeFrom l X hI (tr_5_3 t0) (tr_5_2 t0) _ _ hq16) (cwV 1 hts (gV wU_in m_497 m_498 m_499 m_38 m_500) rfl rfl rfl hdV_X4_takeFrom ⟨Nat.le_of_ble_eq_true rfl, Nat.le_of_ble_eq_true rfl⟩) hl.1 rfl rfl (Nat.le_of_ble_eq_true rfl) dX6_judge_37 ⟨Nat.zero_le _, Nat.zero_le _⟩ (fun H locs hH => ?_)
          refine lv_iconst (v := 0) hx hb dX6_judge_40 (by decide) ?_
          refine lv_istore (lv' := [(4, .int ((0 : Int32))), (0, .ref (X.2.2.2 a0)), (1, .int a1), (2, .long a2)]) hx hb dX6_judge_41 hl (by decide) rfl (fun ls hl => ?_)
          exact BL43 FU _ _ hf H locs ls (lv_sub hl [1, 2, 3, 0] rfl) hH
        · replace hf := ite_f c15 hf
          refine lv_bipush (v := (-2)) hx hb dX6_judge_26 (by decide) ?_
          exact wk_iret S hr hlk hK hN hH hf dX6_judge_28
set_option maxHeartbeats 4000000 in
set_option maxRecDepth 100000 in
theorem C_J6_bitCount_0f7a4 (l : Launch) (X : Cx) (hI : Inj X) (a0 : Int32) (h : Hp) (r0 : Int32) (h0 : Hp) (hf : f_J6_bitCount_0f7a4 a0 h = some (r0, h0)) : Mi l X yJ6_bitCount_0f7a4 cJ6_bitCount_0f7a4 1 (some .int) 0 0 h [.int a0] r0 h0 := by
  refine BD_of (own := RJ6) hI rfl (by decide) (Nat.le_of_ble_eq_true rfl) ?_
  intro p e s m args below meth c S hr hlk hK hN
  obtain ⟨hx, hb, hml, hown, hts⟩ := id S
  intro H locs ls hl hH
  replace hl : lv_has ls 1 [(0, .int a0)] := hl
  unfold f_J6_bitCount_0f7a4 at hf
  refine lv_iload_n hx hb dJ6_bitCount_0f7a4_0 rfl (lv_at hl 0 rfl) ?_
  refine lv_iload_n hx hb dJ6_bitCount_0f7a4_1 rfl (lv_at hl 0 rfl) ?_
  refine lv_iconst (v := 1) hx hb dJ6_bitCount_0f7a4_2 (by decide) ?_
  refine lv_iushr (v := ((a0).toUInt32 >>> (((1 : Int32)).toUInt32 &&& Int32.toUInt32 31)).toInt32) hx hb dJ6_bitCount_0f7a4_3 rfl ?_
  refine lv_ldcw hx hb hown (hts _ (wU_in _ m_541)) dJ6_bitCount_0f7a4_4 ?_
  refine lv_iand hx hb dJ6_bitCount_0f7a4_7 ?_
  refine lv_isub hx hb dJ6_bitCount_0f7a4_8 ?_
  refine lv_istore_n (lv' := [(0, .int ((a0 - ((((a0).toUInt32 >>> (((1 : Int32)).toUInt32 &&& Int32.toUInt32 31)).toInt32) &&& (1431655765 : Int32)))))]) hx hb dJ6_bitCount_0f7a4_9 rfl hl (by decide) rfl (fun ls hl => ?_)
  refine lv_iload_n hx hb dJ6_bitCount_0f7a4_10 rfl (lv_at hl 0 rfl) ?_
  refine lv_ldcw hx hb hown (hts _ (wU_in _ m_542)) dJ6_bitCount_0f7a4_11 ?_
  refine lv_iand hx hb dJ6_bitCount_0f7a4_14 ?_
  refine lv_iload_n hx hb dJ6_bitCount_0f7a4_15 rfl (lv_at hl 0 rfl) ?_
  refine lv_iconst (v := 2) hx hb dJ6_bitCount_0f7a4_16 (by decide) ?_
  refine lv_iushr (v := (((a0 - ((((a0).toUInt32 >>> (((1 : Int32)).toUInt32 &&& Int32.toUInt32 31)).toInt32) &&& (1431655765 : Int32)))).toUInt32 >>> (((2 : Int32)).toUInt32 &&& Int32.toUInt32 31)).toInt32) hx hb dJ6_bitCount_0f7a4_17 rfl ?_
  refine lv_ldcw hx hb hown (hts _ (wU_in _ m_542)) dJ6_bitCount_0f7a4_18 ?_
  refine lv_iand hx hb dJ6_bitCount_0f7a4_21 ?_
  refine lv_iadd hx hb dJ6_bitCount_0f7a4_22 ?_
  refine lv_istore_n (lv' := [(0, .int ((((a0 - ((((a0).toUInt32 >>> (((1 : Int32)).toUInt32 &&& Int32.toUInt32 31)).toInt32) &&& (1431655765 : Int32))) &&& (858993459 : Int32)) + (((((a0 - ((((a0).toUInt32 >>> (((1 : Int32)).toUInt32 &&& Int32.toUInt32 31)).toInt32) &&& (1431655765 : Int32)))).toUInt32 >>> (((2 : Int32)).toUInt32 &&& Int32.toUInt32 31)).toInt32) &&& (858993459 : Int32)))))]) hx hb dJ6_bitCount_0f7a4_23 rfl hl (by decide) rfl (fun ls hl => ?_)
  refine lv_iload_n hx hb dJ6_bitCount_0f7a4_24 rfl (lv_at hl 0 rfl) ?_
  refine lv_iload_n hx hb dJ6_bitCount_0f7a4_25 rfl (lv_at hl 0 rfl) ?_
  refine lv_iconst (v := 4) hx hb dJ6_bitCount_0f7a4_26 (by decide) ?_
  refine lv_iushr (v := (((((a0 - ((((a0).toUInt32 >>> (((1 : Int32)).toUInt32 &&& Int32.toUInt32 31)).toInt32) &&& (1431655765 : Int32))) &&& (858993459 : Int32)) + (((((a0 - ((((a0).toUInt32 >>> (((1 : Int32)).toUInt32 &&& Int32.toUInt32 31)).toInt32) &&& (1431655765 : Int32)))).toUInt32 >>> (((2 : Int32)).toUInt32 &&& Int32.toUInt32 31)).toInt32) &&& (858993459 : Int32)))).toUInt32 >>> (((4 : Int32)).toUInt32 &&& Int32.toUInt32 31)).toInt32) hx hb dJ6_bitCount_0f7a4_27 rfl ?_
  refine lv_iadd hx hb dJ6_bitCount_0f7a4_28 ?_
  refine lv_ldcw hx hb hown (hts _ (wU_in _ m_543)) dJ6_bitCount_0f7a4_29 ?_
  refine lv_iand hx hb dJ6_bitCount_0f7a4_32 ?_
  refine lv_istore_n (lv' := [(0, .int ((((((a0 - ((((a0).toUInt32 >>> (((1 : Int32)).toUInt32 &&& Int32.toUInt32 31)).toInt32) &&& (1431655765 : Int32))) &&& (858993459 : Int32)) + (((((a0 - ((((a0).toUInt32 >>> (((1 : Int32)).toUInt32 &&& Int32.toUInt32 31)).toInt32) &&& (1431655765 : Int32)))).toUInt32 >>> (((2 : Int32)).toUInt32 &&& Int32.toUInt32 31)).toInt32) &&& (858993459 : Int32))) + ((((((a0 - ((((a0).toUInt32 >>> (((1 : Int32)).toUInt32 &&& Int32.toUInt32 31)).toInt32) &&& (1431655765 : Int32))) &&& (858993459 : Int32)) + (((((a0 - ((((a0).toUInt32 >>> (((1 : Int32)).toUInt32 &&& Int32.toUInt32 31)).toInt32) &&& (1431655765 : Int32)))).toUInt32 >>> (((2 : Int32)).toUInt32 &&& Int32.toUInt32 31)).toInt32) &&& (858993459 : Int32)))).toUInt32 >>> (((4 : Int32)).toUInt32 &&& Int32.toUInt32 31)).toInt32)) &&& (252645135 : Int32))))]) hx hb dJ6_bitCount_0f7a4_33 rfl hl (by decide) rfl (fun ls hl => ?_)
  refine lv_iload_n hx hb dJ6_bitCount_0f7a4_34 rfl (lv_at hl 0 rfl) ?_
  refine lv_iload_n hx hb dJ6_bitCount_0f7a4_35 rfl (lv_at hl 0 rfl) ?_
  refine lv_bipush (v := 8) hx hb dJ6_bitCount_0f7a4_36 (by decide) ?_
  refine lv_iushr (v := (((((((a0 - ((((a0).toUInt32 >>> (((1 : Int32)).toUInt32 &&& Int32.toUInt32 31)).toInt32) &&& (1431655765 : Int32))) &&& (858993459 : Int32)) + (((((a0 - ((((a0).toUInt32 >>> (((1 : Int32)).toUInt32 &&& Int32.toUInt32 31)).toInt32) &&& (1431655765 : Int32)))).toUInt32 >>> (((2 : Int32)).toUInt32 &&& Int32.toUInt32 31)).toInt32) &&& (858993459 : Int32))) + ((((((a0 - ((((a0).toUInt32 >>> (((1 : Int32)).toUInt32 &&& Int32.toUInt32 31)).toInt32) &&& (1431655765 : Int32))) &&& (858993459 : Int32)) + (((((a0 - ((((a0).toUInt32 >>> (((1 : Int32)).toUInt32 &&& Int32.toUInt32 31)).toInt32) &&& (1431655765 : Int32)))).toUInt32 >>> (((2 : Int32)).toUInt32 &&& Int32.toUInt32 31)).toInt32) &&& (858993459 : Int32)))).toUInt32 >>> (((4 : Int32)).toUInt32 &&& Int32.toUInt32 31)).toInt32)) &&& (252645135 : Int32))).toUInt32 >>> (((8 : Int32)).toUInt32 &&& Int32.toUInt32 31)).toInt32) hx hb dJ6_bitCount_0f7a4_38 rfl ?_
  refine lv_iadd hx hb dJ6_bitCount_0f7a4_39 ?_
  refine lv_istore_n (lv' := [(0, .int (((((((a0 - ((((a0).toUInt32 >>> (((1 : Int32)).toUInt32 &&& Int32.toUInt32 31)).toInt32) &&& (1431655765 : Int32))) &&& (858993459 : Int32)) + (((((a0 - ((((a0).toUInt32 >>> (((1 : Int32)).toUInt32 &&& Int32.toUInt32 31)).toInt32) &&& (1431655765 : Int32)))).toUInt32 >>> (((2 : Int32)).toUInt32 &&& Int32.toUInt32 31)).toInt32) &&& (858993459 : Int32))) + ((((((a0 - ((((a0).toUInt32 >>> (((1 : Int32)).toUInt32 &&& Int32.toUInt32 31)).toInt32) &&& (1431655765 : Int32))) &&& (858993459 : Int32)) + (((((a0 - ((((a0).toUInt32 >>> (((1 : Int32)).toUInt32 &&& Int32.toUInt32 31)).toInt32) &&& (1431655765 : Int32)))).toUInt32 >>> (((2 : Int32)).toUInt32 &&& Int32.toUInt32 31)).toInt32) &&& (858993459 : Int32)))).toUInt32 >>> (((4 : Int32)).toUInt32 &&& Int32.toUInt32 31)).toInt32)) &&& (252645135 : Int32)) + ((((((((a0 - ((((a0).toUInt32 >>> (((1 : Int32)).toUInt32 &&& Int32.toUInt32 31)).toInt32) &&& (1431655765 : Int32))) &&& (858993459 : Int32)) + (((((a0 - ((((a0).toUInt32 >>> (((1 : Int32)).toUInt32 &&& Int32.toUInt32 31)).toInt32) &&& (1431655765 : Int32)))).toUInt32 >>> (((2 : Int32)).toUInt32 &&& Int32.toUInt32 31)).toInt32) &&& (858993459 : Int32))) + ((((((a0 - ((((a0).toUInt32 >>> (((1 : Int32)).toUInt32 &&& Int32.toUInt32 31)).toInt32) &&& (1431655765 : Int32))) &&& (858993459 : Int32)) + (((((a0 - ((((a0).toUInt32 >>> (((1 : Int32)).toUInt32 &&& Int32.toUInt32 31)).toInt32) &&& (1431655765 : Int32)))).toUInt32 >>> (((2 : Int32)).toUInt32 &&& Int32.toUInt32 31)).toInt32) &&& (858993459 : Int32)))).toUInt32 >>> (((4 : Int32)).toUInt32 &&& Int32.toUInt32 31)).toInt32)) &&& (252645135 : Int32))).toUInt32 >>> (((8 : Int32)).toUInt32 &&& Int32.toUInt32 31)).toInt32))))]) hx hb dJ6_bitCount_0f7a4_40 rfl hl (by decide) rfl (fun ls hl => ?_)
  refine lv_iload_n hx hb dJ6_bitCount_0f7a4_41 rfl (lv_at hl 0 rfl) ?_
  refine lv_iload_n hx hb dJ6_bitCount_0f7a4_42 rfl (lv_at hl 0 rfl) ?_
  refine lv_bipush (v := 16) hx hb dJ6_bitCount_0f7a4_43 (by decide) ?_
  refine lv_iushr (v := ((((((((a0 - ((((a0).toUInt32 >>> (((1 : Int32)).toUInt32 &&& Int32.toUInt32 31)).toInt32) &&& (1431655765 : Int32))) &&& (858993459 : Int32)) + (((((a0 - ((((a0).toUInt32 >>> (((1 : Int32)).toUInt32 &&& Int32.toUInt32 31)).toInt32) &&& (1431655765 : Int32)))).toUInt32 >>> (((2 : Int32)).toUInt32 &&& Int32.toUInt32 31)).toInt32) &&& (858993459 : Int32))) + ((((((a0 - ((((a0).toUInt32 >>> (((1 : Int32)).toUInt32 &&& Int32.toUInt32 31)).toInt32) &&& (1431655765 : Int32))) &&& (858993459 : Int32)) + (((((a0 - ((((a0).toUInt32 >>> (((1 : Int32)).toUInt32 &&& Int32.toUInt32 31)).toInt32) &&& (1431655765 : Int32)))).toUInt32 >>> (((2 : Int32)).toUInt32 &&& Int32.toUInt32 31)).toInt32) &&& (858993459 : Int32)))).toUInt32 >>> (((4 : Int32)).toUInt32 &&& Int32.toUInt32 31)).toInt32)) &&& (252645135 : Int32)) + ((((((((a0 - ((((a0).toUInt32 >>> (((1 : Int32)).toUInt32 &&& Int32.toUInt32 31)).toInt32) &&& (1431655765 : Int32))) &&& (858993459 : Int32)) + (((((a0 - ((((a0).toUInt32 >>> (((1 : Int32)).toUInt32 &&& Int32.toUInt32 31)).toInt32) &&& (1431655765 : Int32)))).toUInt32 >>> (((2 : Int32)).toUInt32 &&& Int32.toUInt32 31)).toInt32) &&& (858993459 : Int32))) + ((((((a0 - ((((a0).toUInt32 >>> (((1 : Int32)).toUInt32 &&& Int32.toUInt32 31)).toInt32) &&& (1431655765 : Int32))) &&& (858993459 : Int32)) + (((((a0 - ((((a0).toUInt32 >>> (((1 : Int32)).toUInt32 &&& Int32.toUInt32 31)).toInt32) &&& (1431655765 : Int32)))).toUInt32 >>> (((2 : Int32)).toUInt32 &&& Int32.toUInt32 31)).toInt32) &&& (858993459 : Int32)))).toUInt32 >>> (((4 : Int32)).toUInt32 &&& Int32.toUInt32 31)).toInt32)) &&& (252645135 : Int32))).toUInt32 >>> (((8 : Int32)).toUInt32 &&& Int32.toUInt32 31)).toInt32))).toUInt32 >>> (((16 : Int32)).toUInt32 &&& Int32.toUInt32 31)).toInt32) hx hb dJ6_bitCount_0f7a4_45 rfl ?_
  refine lv_iadd hx hb dJ6_bitCount_0f7a4_46 ?_
  refine lv_istore_n (lv' := [(0, .int ((((((((a0 - ((((a0).toUInt32 >>> (((1 : Int32)).toUInt32 &&& Int32.toUInt32 31)).toInt32) &&& (1431655765 : Int32))) &&& (858993459 : Int32)) + (((((a0 - ((((a0).toUInt32 >>> (((1 : Int32)).toUInt32 &&& Int32.toUInt32 31)).toInt32) &&& (1431655765 : Int32)))).toUInt32 >>> (((2 : Int32)).toUInt32 &&& Int32.toUInt32 31)).toInt32) &&& (858993459 : Int32))) + ((((((a0 - ((((a0).toUInt32 >>> (((1 : Int32)).toUInt32 &&& Int32.toUInt32 31)).toInt32) &&& (1431655765 : Int32))) &&& (858993459 : Int32)) + (((((a0 - ((((a0).toUInt32 >>> (((1 : Int32)).toUInt32 &&& Int32.toUInt32 31)).toInt32) &&& (1431655765 : Int32)))).toUInt32 >>> (((2 : Int32)).toUInt32 &&& Int32.toUInt32 31)).toInt32) &&& (858993459 : Int32)))).toUInt32 >>> (((4 : Int32)).toUInt32 &&& Int32.toUInt32 31)).toInt32)) &&& (252645135 : Int32)) + ((((((((a0 - ((((a0).toUInt32 >>> (((1 : Int32)).toUInt32 &&& Int32.toUInt32 31)).toInt32) &&& (1431655765 : Int32))) &&& (858993459 : Int32)) + (((((a0 - ((((a0).toUInt32 >>> (((1 : Int32)).toUInt32 &&& Int32.toUInt32 31)).toInt32) &&& (1431655765 : Int32)))).toUInt32 >>> (((2 : Int32)).toUInt32 &&& Int32.toUInt32 31)).toInt32) &&& (858993459 : Int32))) + ((((((a0 - ((((a0).toUInt32 >>> (((1 : Int32)).toUInt32 &&& Int32.toUInt32 31)).toInt32) &&& (1431655765 : Int32))) &&& (858993459 : Int32)) + (((((a0 - ((((a0).toUInt32 >>> (((1 : Int32)).toUInt32 &&& Int32.toUInt32 31)).toInt32) &&& (1431655765 : Int32)))).toUInt32 >>> (((2 : Int32)).toUInt32 &&& Int32.toUInt32 31)).toInt32) &&& (858993459 : Int32)))).toUInt32 >>> (((4 : Int32)).toUInt32 &&& Int32.toUInt32 31)).toInt32)) &&& (252645135 : Int32))).toUInt32 >>> (((8 : Int32)).toUInt32 &&& Int32.toUInt32 31)).toInt32)) + (((((((((a0 - ((((a0).toUInt32 >>> (((1 : Int32)).toUInt32 &&& Int32.toUInt32 31)).toInt32) &&& (1431655765 : Int32))) &&& (858993459 : Int32)) + (((((a0 - ((((a0).toUInt32 >>> (((1 : Int32)).toUInt32 &&& Int32.toUInt32 31)).toInt32) &&& (1431655765 : Int32)))).toUInt32 >>> (((2 : Int32)).toUInt32 &&& Int32.toUInt32 31)).toInt32) &&& (858993459 : Int32))) + ((((((a0 - ((((a0).toUInt32 >>> (((1 : Int32)).toUInt32 &&& Int32.toUInt32 31)).toInt32) &&& (1431655765 : Int32))) &&& (858993459 : Int32)) + (((((a0 - ((((a0).toUInt32 >>> (((1 : Int32)).toUInt32 &&& Int32.toUInt32 31)).toInt32) &&& (1431655765 : Int32)))).toUInt32 >>> (((2 : Int32)).toUInt32 &&& Int32.toUInt32 31)).toInt32) &&& (858993459 : Int32)))).toUInt32 >>> (((4 : Int32)).toUInt32 &&& Int32.toUInt32 31)).toInt32)) &&& (252645135 : Int32)) + ((((((((a0 - ((((a0).toUInt32 >>> (((1 : Int32)).toUInt32 &&& Int32.toUInt32 31)).toInt32) &&& (1431655765 : Int32))) &&& (858993459 : Int32)) + (((((a0 - ((((a0).toUInt32 >>> (((1 : Int32)).toUInt32 &&& Int32.toUInt32 31)).toInt32) &&& (1431655765 : Int32)))).toUInt32 >>> (((2 : Int32)).toUInt32 &&& Int32.toUInt32 31)).toInt32) &&& (858993459 : Int32))) + ((((((a0 - ((((a0).toUInt32 >>> (((1 : Int32)).toUInt32 &&& Int32.toUInt32 31)).toInt32) &&& (1431655765 : Int32))) &&& (858993459 : Int32)) + (((((a0 - ((((a0).toUInt32 >>> (((1 : Int32)).toUInt32 &&& Int32.toUInt32 31)).toInt32) &&& (1431655765 : Int32)))).toUInt32 >>> (((2 : Int32)).toUInt32 &&& Int32.toUInt32 31)).toInt32) &&& (858993459 : Int32)))).toUInt32 >>> (((4 : Int32)).toUInt32 &&& Int32.toUInt32 31)).toInt32)) &&& (252645135 : Int32))).toUInt32 >>> (((8 : Int32)).toUInt32 &&& Int32.toUInt32 31)).toInt32))).toUInt32 >>> (((16 : Int32)).toUInt32 &&& Int32.toUInt32 31)).toInt32))))]) hx hb dJ6_bitCount_0f7a4_47 rfl hl (by decide) rfl (fun ls hl => ?_)
  refine lv_iload_n hx hb dJ6_bitCount_0f7a4_48 rfl (lv_at hl 0 rfl) ?_
  refine lv_bipush (v := 63) hx hb dJ6_bitCount_0f7a4_49 (by decide) ?_
  refine lv_iand hx hb dJ6_bitCount_0f7a4_51 ?_
  exact wk_iret S hr hlk hK hN hH hf dJ6_bitCount_0f7a4_52
set_option maxHeartbeats 4000000 in
set_option maxRecDepth 100000 in
theorem C_X6_sharedDivisor (l : Launch) (X : Cx) (hI : Inj X) (a0 : Int32) (a1 : Int32) (h : Hp) (r0 : Int32) (h0 : Hp) (hf : f_X6_sharedDivisor a0 a1 h = some (r0, h0)) : Mi l X yX6_sharedDivisor cX6_sharedDivisor 6 (some .int) 0 0 h [.int a0, .int a1] r0 h0 := by
  refine BD_of (own := RX6) hI rfl (by decide) (Nat.le_of_ble_eq_true rfl) ?_
  intro p e s m args below meth c S hr hlk hK hN
  obtain ⟨hx, hb, hml, hown, hts⟩ := id S
  have B7 : ∀ (k7 : Int32 → Int32 → Int32 → Hp → Option (Int32 × Hp)) (hk7 : ∀ (x2 : Int32) (x3 : Int32) (x4 : Int32) (h : Hp), k7 x2 x3 x4 h = some (r0, h0) → BK p l e ({ frames := 0, cells := 0, slots := 0, locals := 0 }) s m args below meth c (MQ below (cQi X r0 h0) args s 0 0 (AD X)) X 6 7 [(2, .int x2), (3, .int x3), (4, .int x4)] [] h) (x2 : Int32) (x3 : Int32) (x4 : Int32) (h : Hp), g_X6_sharedDivisor_7 a0 a1 k7 x2 x3 x4 h = some (r0, h0) → BK p l e ({ frames := 0, cells := 0, slots := 0, locals := 0 }) s m args below meth c (MQ below (cQi X r0 h0) args s 0 0 (AD X)) X 6 7 [(2, .int x2), (3, .int x3), (4, .int x4)] [] h := by
    intro k7 hk7 x2 x3 x4 h hf H locs ls hl hH
    unfold g_X6_sharedDivisor_7 at hf
    refine lv_iload hx hb dX6_sharedDivisor_7 (lv_at hl 2 rfl) ?_
    refine lv_bipush (v := 64) hx hb dX6_sharedDivisor_9 (by decide) ?_
    refine lv_icmp_ge (tgt := 34) hx hb dX6_sharedDivisor_11 (by decide) (fun c1 => ?_) (fun c1 => ?_)
    · replace hf := ite_t c1 hf
      refine lv_iload_n hx hb dX6_sharedDivisor_34 rfl (lv_at hl 0 rfl) ?_
      exact wk_iret S hr hlk hK hN hH hf dX6_sharedDivisor_35
    · replace hf := ite_f c1 hf
      refine lv_iload_n hx hb dX6_sharedDivisor_14 rfl (lv_at hl 1 rfl) ?_
      refine lv_if_eq (tgt := 34) hx hb dX6_sharedDivisor_15 (by decide) (fun c2 => ?_) (fun c2 => ?_)
      · replace hf := ite_t c2 hf
        refine lv_iload_n hx hb dX6_sharedDivisor_34 rfl (lv_at hl 0 rfl) ?_
        exact wk_iret S hr hlk hK hN hH hf dX6_sharedDivisor_35
      · replace hf := ite_f c2 hf
        refine lv_iload_n hx hb dX6_sharedDivisor_18 rfl (lv_at hl 0 rfl) ?_
        refine lv_iload_n hx hb dX6_sharedDivisor_19 rfl (lv_at hl 1 rfl) ?_
        obtain ⟨o3, hf⟩ := ite_no hf
        refine lv_irem hx hb dX6_sharedDivisor_20 o3 ?_
        refine lv_istore (lv' := [(5, .int ((x2 - x2 / x3 * x3))), (2, .int x2), (3, .int x3), (4, .int x4)]) hx hb dX6_sharedDivisor_21 hl (by decide) rfl (fun ls hl => ?_)
        refine lv_iload_n hx hb dX6_sharedDivisor_23 rfl (lv_at hl 2 rfl) ?_
        refine lv_istore_n (lv' := [(2, .int x3), (5, .int ((x2 - x2 / x3 * x3))), (3, .int x3), (4, .int x4)]) hx hb dX6_sharedDivisor_24 rfl hl (by decide) rfl (fun ls hl => ?_)
        refine lv_iload hx hb dX6_sharedDivisor_25 (lv_at hl 1 rfl) ?_
        refine lv_istore_n (lv' := [(3, .int ((x2 - x2 / x3 * x3))), (2, .int x3), (5, .int ((x2 - x2 / x3 * x3))), (4, .int x4)]) hx hb dX6_sharedDivisor_27 rfl hl (by decide) rfl (fun ls hl => ?_)
        refine lv_iinc (v := (x4 + (1 : Int32))) (lv' := [(4, .int ((x4 + (1 : Int32)))), (3, .int ((x2 - x2 / x3 * x3))), (2, .int x3), (5, .int ((x2 - x2 / x3 * x3)))]) hx hb dX6_sharedDivisor_28 hl (k := 3) rfl rfl (by decide) rfl (fun ls hl => ?_)
        refine lv_goto (tgt := 7) hx hb dX6_sharedDivisor_31 (by decide) ?_
        exact hk7 _ _ _ _ hf H locs ls (lv_sub hl [2, 1, 0] rfl) hH
  have BL7 : ∀ (n : Nat) (x2 : Int32) (x3 : Int32) (x4 : Int32) (h : Hp), f_X6_sharedDivisor_7 a0 a1 n x2 x3 x4 h = some (r0, h0) → BK p l e ({ frames := 0, cells := 0, slots := 0, locals := 0 }) s m args below meth c (MQ below (cQi X r0 h0) args s 0 0 (AD X)) X 6 7 [(2, .int x2), (3, .int x3), (4, .int x4)] [] h := by
    intro n
    induction n with
    | zero => intro x2 x3 x4 h hf; cases hf
    | succ n ih => intro x2 x3 x4 h hf; exact B7 _ ih _ _ _ _ hf
  intro H locs ls hl hH
  replace hl : lv_has ls 6 [(0, .int a0), (1, .int a1)] := hl
  unfold f_X6_sharedDivisor at hf
  refine lv_iload_n hx hb dX6_sharedDivisor_0 rfl (lv_at hl 0 rfl) ?_
  refine lv_istore_n (lv' := [(2, .int a0), (0, .int a0), (1, .int a1)]) hx hb dX6_sharedDivisor_1 rfl hl (by decide) rfl (fun ls hl => ?_)
  refine lv_iload_n hx hb dX6_sharedDivisor_2 rfl (lv_at hl 2 rfl) ?_
  refine lv_istore_n (lv' := [(3, .int a1), (2, .int a0), (0, .int a0), (1, .int a1)]) hx hb dX6_sharedDivisor_3 rfl hl (by decide) rfl (fun ls hl => ?_)
  refine lv_iconst (v := 0) hx hb dX6_sharedDivisor_4 (by decide) ?_
  refine lv_istore (lv' := [(4, .int ((0 : Int32))), (3, .int a1), (2, .int a0), (0, .int a0), (1, .int a1)]) hx hb dX6_sharedDivisor_5 hl (by decide) rfl (fun ls hl => ?_)
  exact BL7 FU _ _ _ _ hf H locs ls (lv_sub hl [2, 1, 0] rfl) hH
set_option maxHeartbeats 4000000 in
set_option maxRecDepth 100000 in
theorem C_X6_fraction (l : Launch) (X : Cx) (hI : Inj X) (a0 : Int32) (a1 : Int32) (a2 : Int32) (h : Hp) (r0 : Int32) (h0 : Hp) (hf : f_X6_fraction a0 a1 a2 h = some (r0, h0)) : Mi l X yX6_fraction cX6_fraction 5 (some .int) 1 25 h [.int a0, .int a1, .int a2] r0 h0 := by
  refine BD_of (own := RX6) hI rfl (by decide) (Nat.le_of_ble_eq_true rfl) ?_
  intro p e s m args below meth c S hr hlk hK hN
  obtain ⟨hx, hb, hml, hown, hts⟩ := id S
  have B18 : ∀ (x3 : Int32) (z0 : Int32) (h : Hp), g_X6_fraction_18 a0 a1 a2 x3 z0 h = some (r0, h0) → BK p l e ({ frames := 1, cells := 0, slots := 0, locals := 25 }) s m args below meth c (MQ below (cQi X r0 h0) args s 0 0 (AD X)) X 5 18 [(3, .int x3)] [.int z0] h := by
    intro x3 z0 h hf H locs ls hl hH
    unfold g_X6_fraction_18 at hf
    refine lv_istore (lv' := [(4, .int z0), (3, .int x3)]) hx hb dX6_fraction_18 hl (by decide) rfl (fun ls hl => ?_)
    refine lv_iload_n hx hb dX6_fraction_20 rfl (lv_at hl 1 rfl) ?_
    refine lv_iconst (v := 1) hx hb dX6_fraction_21 (by decide) ?_
    refine lv_icmp_le (tgt := 32) hx hb dX6_fraction_22 (by decide) (fun c1 => ?_) (fun c1 => ?_)
    · replace hf := ite_t c1 hf
      refine lv_iload hx hb dX6_fraction_32 (lv_at hl 0 rfl) ?_
      exact wk_iret S hr hlk hK hN hH hf dX6_fraction_34
    · replace hf := ite_f c1 hf
      refine lv_iload hx hb dX6_fraction_25 (lv_at hl 0 rfl) ?_
      refine lv_iload_n hx hb dX6_fraction_27 rfl (lv_at hl 1 rfl) ?_
      obtain ⟨o2, hf⟩ := ite_no hf
      refine lv_idiv hx hb dX6_fraction_28 o2 ?_
      refine lv_goto (tgt := 34) hx hb dX6_fraction_29 (by decide) ?_
      exact wk_iret S hr hlk hK hN hH hf dX6_fraction_34
  intro H locs ls hl hH
  replace hl : lv_has ls 5 [(0, .int a0), (1, .int a1), (2, .int a2)] := hl
  unfold f_X6_fraction at hf
  refine lv_iload_n hx hb dX6_fraction_0 rfl (lv_at hl 0 rfl) ?_
  refine va_mabs hx hb (by rw [hml]; exact hl.1.symm) hown (hts _ (wU_in _ m_549)) (hts _ (wU_in _ m_550)) (hts _ (wU_in _ m_45)) (hts _ (wU_in _ m_551)) (by decide) (Nat.le_of_ble_eq_true rfl) (Nat.zero_le _) (Nat.zero_le _) dX6_fraction_1 ?_
  refine lv_iload_n hx hb dX6_fraction_4 rfl (lv_at hl 1 rfl) ?_
  obtain ⟨r5, h4, hq3, hf⟩ := bnd_ok hf
  refine wk_callSi (As := [.int ((if 0 ≤ a0 then a0 else 0 - a0)), .int a1]) (rest := []) S hK hN hH (C_X6_sharedDivisor l X hI (if 0 ≤ a0 then a0 else 0 - a0) a1 _ _ _ hq3) (va_cwS 2 hts (gS wU_in m_552 m_553 m_35 m_554) rfl rfl rfl hdS_X6_sharedDivisor ⟨Nat.le_of_ble_eq_true rfl, Nat.le_of_ble_eq_true rfl⟩) hl.1 rfl rfl (Nat.le_of_ble_eq_true rfl) dX6_fraction_5 ⟨Nat.zero_le _, Nat.zero_le _⟩ (fun H locs hH => ?_)
  refine lv_istore_n (lv' := [(3, .int r5), (0, .int a0), (1, .int a1), (2, .int a2)]) hx hb dX6_fraction_8 rfl hl (by decide) rfl (fun ls hl => ?_)
  refine lv_iload_n hx hb dX6_fraction_9 rfl (lv_at hl 3 rfl) ?_
  refine lv_if_eq (tgt := 17) hx hb dX6_fraction_10 (by decide) (fun c6 => ?_) (fun c6 => ?_)
  · replace hf := ite_t c6 hf
    refine lv_iload_n hx hb dX6_fraction_17 rfl (lv_at hl 2 rfl) ?_
    exact B18 _ _ _ hf H locs ls (lv_sub hl [0] rfl) hH
  · replace hf := ite_f c6 hf
    refine lv_iload_n hx hb dX6_fraction_13 rfl (lv_at hl 1 rfl) ?_
    refine lv_goto (tgt := 18) hx hb dX6_fraction_14 (by decide) ?_
    exact B18 _ _ _ hf H locs ls (lv_sub hl [0] rfl) hH
set_option maxHeartbeats 4000000 in
set_option maxRecDepth 100000 in
theorem C_X6_share (l : Launch) (X : Cx) (hI : Inj X) (fa : Nat) {a0 : Nat} (t0 : tY a0 = 5) (a1 : Int32) (a2 : Int32) (h : Hp) (r0 : Int32) (h0 : Hp) (hf : f_X6_share a0 a1 a2 h = some (r0, h0)) : Met l yX6_share (wU yX6_share cX6_share 8 (some .int)) ({ frames := 4, cells := 0, slots := 0, locals := 102 }) (va_Pc [.ref (X.2.2.2 a0), .int a1, .int a2] (fun U => Wd X h U ∧ Fx X fa U)) (cQi X r0 h0) 0 0 (AD X) := by
  refine BD_ofF (own := RX6) hI rfl (by decide) (Nat.le_of_ble_eq_true rfl) ?_
  intro p e s m args below meth c S hr hlk hK hN hFx
  obtain ⟨hZ, hX, hfl, hfA⟩ := hFx
  obtain ⟨hx, hb, hml, hown, hts⟩ := id S
  have B105 : ∀ (k27 : Int32 → Int32 → Int32 → Hp → Option (Int32 × Hp)) (hk27 : ∀ (x3 : Int32) (x4 : Int32) (x5 : Int32) (h : Hp), k27 x3 x4 x5 h = some (r0, h0) → BK p l e ({ frames := 4, cells := 0, slots := 0, locals := 102 }) s m args below meth c (MQ below (cQi X r0 h0) args s 0 0 (AD X)) X 8 27 [(0, .ref (X.2.2.2 a0)), (1, .int a1), (2, .int a2), (3, .int x3), (4, .int x4), (5, .int x5)] [] h) (x3 : Int32) (x4 : Int32) (x5 : Int32) (h : Hp), g_X6_share_105 a0 a1 a2 k27 x3 x4 x5 h = some (r0, h0) → BK p l e ({ frames := 4, cells := 0, slots := 0, locals := 102 }) s m args below meth c (MQ below (cQi X r0 h0) args s 0 0 (AD X)) X 8 105 [(0, .ref (X.2.2.2 a0)), (1, .int a1), (2, .int a2), (3, .int x3), (4, .int x4), (5, .int x5)] [] h := by
    intro k27 hk27 x3 x4 x5 h hf H locs ls hl hH
    unfold g_X6_share_105 at hf
    refine lv_iinc (v := (x5 + (1 : Int32))) (lv' := [(5, .int ((x5 + (1 : Int32)))), (0, .ref (X.2.2.2 a0)), (1, .int a1), (2, .int a2), (3, .int x3), (4, .int x4)]) hx hb dX6_share_105 hl (k := 5) rfl rfl (by decide) rfl (fun ls hl => ?_)
    refine lv_goto (tgt := 27) hx hb dX6_share_108 (by decide) ?_
    exact hk27 _ _ _ _ hf H locs ls (lv_sub hl [1, 2, 3, 4, 5, 0] rfl) hH
  have B27 : ∀ (k27 : Int32 → Int32 → Int32 → Hp → Option (Int32 × Hp)) (hk27 : ∀ (x3 : Int32) (x4 : Int32) (x5 : Int32) (h : Hp), k27 x3 x4 x5 h = some (r0, h0) → BK p l e ({ frames := 4, cells := 0, slots := 0, locals := 102 }) s m args below meth c (MQ below (cQi X r0 h0) args s 0 0 (AD X)) X 8 27 [(0, .ref (X.2.2.2 a0)), (1, .int a1), (2, .int a2), (3, .int x3), (4, .int x4), (5, .int x5)] [] h) (x3 : Int32) (x4 : Int32) (x5 : Int32) (h : Hp), g_X6_share_27 a0 a1 a2 k27 x3 x4 x5 h = some (r0, h0) → BK p l e ({ frames := 4, cells := 0, slots := 0, locals := 102 }) s m args below meth c (MQ below (cQi X r0 h0) args s 0 0 (AD X)) X 8 27 [(0, .ref (X.2.2.2 a0)), (1, .int a1), (2, .int a2), (3, .int x3), (4, .int x4), (5, .int x5)] [] h := by
    intro k27 hk27 x3 x4 x5 h hf H locs ls hl hH
    unfold g_X6_share_27 at hf
    refine lv_iload hx hb dX6_share_27 (lv_at hl 5 rfl) ?_
    refine lv_aload_n hx hb dX6_share_29 rfl (lv_at hl 0 rfl) ?_
    refine wk_getr (ci := 5) (k := 2) S hK hH j_X6 t0 rfl hq_5_2 (hts _ (wU_in _ m_218)) dX6_share_30 ?_
    obtain ⟨r3, h2, hq1, hf⟩ := bnd_ok hf
    refine wk_callVi (ci := 4) (b := (rF a0 2)) (As := []) (rest := [.int x5]) S hK hN hH (tr_5_2 t0) (by decide) rfl (C_X4_allChanges l X hI (tr_5_2 t0) _ _ _ hq1) (cwV 0 hts (gV wU_in m_325 m_326 m_327 m_38 m_328) rfl rfl rfl hdV_X4_allChanges ⟨Nat.le_of_ble_eq_true rfl, Nat.le_of_ble_eq_true rfl⟩) hl.1 rfl rfl (Nat.le_of_ble_eq_true rfl) dX6_share_33 ⟨Nat.zero_le _, Nat.zero_le _⟩ (fun H locs hH => ?_)
    refine lv_icmp_gt (tgt := 111) hx hb dX6_share_36 (by decide) (fun c4 => ?_) (fun c4 => ?_)
    · replace hf := ite_t c4 hf
      refine lv_iload hx hb dX6_share_111 (lv_at hl 4 rfl) ?_
      refine va_gets hx hb hZ hH.2.1 hown (hts _ (wU_in _ m_544)) (fun _ z => z) dX6_share_113 ?_
      refine lv_iload_n hx hb dX6_share_116 rfl (lv_at hl 3 rfl) ?_
      obtain ⟨o5, hf⟩ := ite_ok hf
      refine va_sld hx hb hX hfl hfA hH.2.1 (okI_in o5) dX6_share_117 ?_
      refine lv_iload_n hx hb dX6_share_118 rfl (lv_at hl 2 rfl) ?_
      obtain ⟨r8, h7, hq6, hf⟩ := bnd_ok hf
      refine wk_callSi (As := [.int x4, .int ((fct (x3).toNatClampNeg)), .int a2]) (rest := []) S hK hN hH (C_X6_fraction l X hI x4 (fct (x3).toNatClampNeg) a2 _ _ _ hq6) (va_cwS 3 hts (gS wU_in m_546 m_547 m_35 m_548) rfl rfl rfl hdS_X6_fraction ⟨Nat.le_of_ble_eq_true rfl, Nat.le_of_ble_eq_true rfl⟩) hl.1 rfl rfl (Nat.le_of_ble_eq_true rfl) dX6_share_119 ⟨Nat.zero_le _, Nat.zero_le _⟩ (fun H locs hH => ?_)
      exact wk_iret S hr hlk hK hN hH hf dX6_share_122
    · replace hf := ite_f c4 hf
      refine lv_iload hx hb dX6_share_39 (lv_at hl 5 rfl) ?_
      refine lv_iconst (v := 1) hx hb dX6_share_41 (by decide) ?_
      refine lv_iload_n hx hb dX6_share_42 rfl (lv_at hl 1 rfl) ?_
      refine lv_ishl hx hb dX6_share_43 ?_
      refine lv_iand hx hb dX6_share_44 ?_
      refine lv_if_ne (tgt := 105) hx hb dX6_share_45 (by decide) (fun c9 => ?_) (fun c9 => ?_)
      · replace hf := ite_f c9 hf
        exact B105 k27 hk27 _ _ _ _ hf H locs ls (lv_sub hl [0, 1, 2, 3, 4, 5] rfl) hH
      · replace hf := ite_t c9 hf
        refine lv_iload hx hb dX6_share_48 (lv_at hl 5 rfl) ?_
        obtain ⟨r12, h11, hq10, hf⟩ := bnd_ok hf
        refine wk_callSi (As := [.int x5]) (rest := []) S hK hN hH (C_J6_bitCount_0f7a4 l X hI x5 _ _ _ hq10) (va_cwS 1 hts (gS wU_in m_538 m_539 m_44 m_540) rfl rfl rfl hdS_J6_bitCount_0f7a4 ⟨Nat.le_of_ble_eq_true rfl, Nat.le_of_ble_eq_true rfl⟩) hl.1 rfl rfl (Nat.le_of_ble_eq_true rfl) dX6_share_50 ⟨Nat.zero_le _, Nat.zero_le _⟩ (fun H locs hH => ?_)
        refine lv_istore (lv' := [(6, .int r12), (0, .ref (X.2.2.2 a0)), (1, .int a1), (2, .int a2), (3, .int x3), (4, .int x4), (5, .int x5)]) hx hb dX6_share_53 hl (by decide) rfl (fun ls hl => ?_)
        refine va_gets hx hb hZ hH.2.1 hown (hts _ (wU_in _ m_544)) (fun _ z => z) dX6_share_55 ?_
        refine lv_iload hx hb dX6_share_58 (lv_at hl 0 rfl) ?_
        obtain ⟨o13, hf⟩ := ite_ok hf
        refine va_sld hx hb hX hfl hfA hH.2.1 (okI_in o13) dX6_share_60 ?_
        refine va_gets hx hb hZ hH.2.1 hown (hts _ (wU_in _ m_544)) (fun _ z => z) dX6_share_61 ?_
        refine lv_iload_n hx hb dX6_share_64 rfl (lv_at hl 4 rfl) ?_
        refine lv_iconst (v := 1) hx hb dX6_share_65 (by decide) ?_
        refine lv_isub hx hb dX6_share_66 ?_
        refine lv_iload hx hb dX6_share_67 (lv_at hl 0 rfl) ?_
        refine lv_isub hx hb dX6_share_69 ?_
        obtain ⟨o14, hf⟩ := ite_ok hf
        refine va_sld hx hb hX hfl hfA hH.2.1 (okI_in o14) dX6_share_70 ?_
        refine lv_imul hx hb dX6_share_71 ?_
        refine lv_istore (lv' := [(7, .int (((fct (r12).toNatClampNeg) * (fct (((x3 - (1 : Int32)) - r12)).toNatClampNeg)))), (6, .int r12), (0, .ref (X.2.2.2 a0)), (1, .int a1), (2, .int a2), (3, .int x3), (4, .int x4), (5, .int x5)]) hx hb dX6_share_72 hl (by decide) rfl (fun ls hl => ?_)
        refine lv_iload hx hb dX6_share_74 (lv_at hl 6 rfl) ?_
        refine lv_iload hx hb dX6_share_76 (lv_at hl 0 rfl) ?_
        refine lv_aload_n hx hb dX6_share_78 rfl (lv_at hl 2 rfl) ?_
        refine wk_getr (ci := 5) (k := 2) S hK hH j_X6 t0 rfl hq_5_2 (hts _ (wU_in _ m_218)) dX6_share_79 ?_
        refine lv_iload hx hb dX6_share_82 (lv_at hl 7 rfl) ?_
        refine lv_iconst (v := 1) hx hb dX6_share_84 (by decide) ?_
        refine lv_iload_n hx hb dX6_share_85 rfl (lv_at hl 3 rfl) ?_
        refine lv_ishl hx hb dX6_share_86 ?_
        refine lv_ior hx hb dX6_share_87 ?_
        obtain ⟨r17, h16, hq15, hf⟩ := bnd_ok hf
        refine wk_callVi (ci := 4) (b := (rF a0 2)) (As := [.int ((x5 ||| ((1 : Int32) <<< (a1 &&& (31 : Int32)))))]) (rest := [.int (((fct (r12).toNatClampNeg) * (fct (((x3 - (1 : Int32)) - r12)).toNatClampNeg))), .int x4]) S hK hN hH (tr_5_2 t0) (by decide) rfl (C_X4_unlikeWords l X hI (tr_5_2 t0) (x5 ||| ((1 : Int32) <<< (a1 &&& (31 : Int32)))) _ _ _ hq15) (cwV 1 hts (gV wU_in m_329 m_330 m_331 m_38 m_332) rfl rfl rfl hdV_X4_unlikeWords ⟨Nat.le_of_ble_eq_true rfl, Nat.le_of_ble_eq_true rfl⟩) hl.1 rfl rfl (Nat.le_of_ble_eq_true rfl) dX6_share_88 ⟨Nat.zero_le _, Nat.zero_le _⟩ (fun H locs hH => ?_)
        refine lv_aload_n hx hb dX6_share_91 rfl (lv_at hl 2 rfl) ?_
        refine wk_getr (ci := 5) (k := 2) S hK hH j_X6 t0 rfl hq_5_2 (hts _ (wU_in _ m_218)) dX6_share_92 ?_
        refine lv_iload hx hb dX6_share_95 (lv_at hl 7 rfl) ?_
        obtain ⟨r20, h19, hq18, hf⟩ := bnd_ok hf
        refine wk_callVi (ci := 4) (b := (rF a0 2)) (As := [.int x5]) (rest := [.int r17, .int (((fct (r12).toNatClampNeg) * (fct (((x3 - (1 : Int32)) - r12)).toNatClampNeg))), .int x4]) S hK hN hH (tr_5_2 t0) (by decide) rfl (C_X4_unlikeWords l X hI (tr_5_2 t0) x5 _ _ _ hq18) (cwV 1 hts (gV wU_in m_329 m_330 m_331 m_38 m_332) rfl rfl rfl hdV_X4_unlikeWords ⟨Nat.le_of_ble_eq_true rfl, Nat.le_of_ble_eq_true rfl⟩) hl.1 rfl rfl (Nat.le_of_ble_eq_true rfl) dX6_share_97 ⟨Nat.zero_le _, Nat.zero_le _⟩ (fun H locs hH => ?_)
        refine lv_isub hx hb dX6_share_100 ?_
        refine lv_imul hx hb dX6_share_101 ?_
        refine lv_iadd hx hb dX6_share_102 ?_
        refine lv_istore (lv' := [(4, .int ((x4 + (((fct (r12).toNatClampNeg) * (fct (((x3 - (1 : Int32)) - r12)).toNatClampNeg)) * (r17 - r20))))), (7, .int (((fct (r12).toNatClampNeg) * (fct (((x3 - (1 : Int32)) - r12)).toNatClampNeg)))), (6, .int r12), (0, .ref (X.2.2.2 a0)), (1, .int a1), (2, .int a2), (3, .int x3), (5, .int x5)]) hx hb dX6_share_103 hl (by decide) rfl (fun ls hl => ?_)
        exact B105 k27 hk27 _ _ _ _ hf H locs ls (lv_sub hl [3, 4, 5, 6, 0, 7] rfl) hH
  have BL27 : ∀ (n : Nat) (x3 : Int32) (x4 : Int32) (x5 : Int32) (h : Hp), f_X6_share_27 a0 a1 a2 n x3 x4 x5 h = some (r0, h0) → BK p l e ({ frames := 4, cells := 0, slots := 0, locals := 102 }) s m args below meth c (MQ below (cQi X r0 h0) args s 0 0 (AD X)) X 8 27 [(0, .ref (X.2.2.2 a0)), (1, .int a1), (2, .int a2), (3, .int x3), (4, .int x4), (5, .int x5)] [] h := by
    intro n
    induction n with
    | zero => intro x3 x4 x5 h hf; cases hf
    | succ n ih => intro x3 x4 x5 h hf; exact B27 _ ih _ _ _ _ hf
  intro H locs ls hl hH
  replace hl : lv_has ls 8 [(0, .ref (X.2.2.2 a0)), (1, .int a1), (2, .int a2)] := hl
  unfold f_X6_share at hf
  refine lv_aload_n hx hb dX6_share_0 rfl (lv_at hl 0 rfl) ?_
  refine wk_getr (ci := 5) (k := 2) S hK hH j_X6 t0 rfl hq_5_2 (hts _ (wU_in _ m_218)) dX6_share_1 ?_
  refine lv_iload_n hx hb dX6_share_4 rfl (lv_at hl 1 rfl) ?_
  obtain ⟨r23, h22, hq21, hf⟩ := bnd_ok hf
  refine wk_callVi (ci := 4) (b := (rF a0 2)) (As := [.int a1]) (rest := []) S hK hN hH (tr_5_2 t0) (by decide) rfl (C_X4_hasChange l X hI (tr_5_2 t0) a1 _ _ _ hq21) (cwV 1 hts (gV wU_in m_403 m_404 m_405 m_38 m_406) rfl rfl rfl hdV_X4_hasChange ⟨Nat.le_of_ble_eq_true rfl, Nat.le_of_ble_eq_true rfl⟩) hl.1 rfl rfl (Nat.le_of_ble_eq_true rfl) dX6_share_5 ⟨Nat.zero_le _, Nat.zero_le _⟩ (fun H locs hH => ?_)
  refine lv_if_ne (tgt := 13) hx hb dX6_share_8 (by decide) (fun c24 => ?_) (fun c24 => ?_)
  · replace hf := ite_f c24 hf
    refine lv_aload_n hx hb dX6_share_13 rfl (lv_at hl 0 rfl) ?_
    refine wk_getr (ci := 5) (k := 2) S hK hH j_X6 t0 rfl hq_5_2 (hts _ (wU_in _ m_218)) dX6_share_14 ?_
    refine wk_getiN (ci := 4) (k := 5) S hK hH j_X4 (tr_5_2 t0) rfl hq_4_5 (hN _ n_151) dX6_share_17 ?_
    refine lv_istore_n (lv' := [(3, .int ((h22.1 (rF a0 2) 5))), (0, .ref (X.2.2.2 a0)), (1, .int a1), (2, .int a2)]) hx hb dX6_share_20 rfl hl (by decide) rfl (fun ls hl => ?_)
    refine lv_iconst (v := 0) hx hb dX6_share_21 (by decide) ?_
    refine lv_istore (lv' := [(4, .int ((0 : Int32))), (3, .int ((h22.1 (rF a0 2) 5))), (0, .ref (X.2.2.2 a0)), (1, .int a1), (2, .int a2)]) hx hb dX6_share_22 hl (by decide) rfl (fun ls hl => ?_)
    refine lv_iconst (v := 0) hx hb dX6_share_24 (by decide) ?_
    refine lv_istore (lv' := [(5, .int ((0 : Int32))), (4, .int ((0 : Int32))), (3, .int ((h22.1 (rF a0 2) 5))), (0, .ref (X.2.2.2 a0)), (1, .int a1), (2, .int a2)]) hx hb dX6_share_25 hl (by decide) rfl (fun ls hl => ?_)
    exact BL27 FU _ _ _ _ hf H locs ls (lv_sub hl [3, 4, 5, 2, 1, 0] rfl) hH
  · replace hf := ite_t c24 hf
    refine lv_iconst (v := (-1)) hx hb dX6_share_11 (by decide) ?_
    exact wk_iret S hr hlk hK hN hH hf dX6_share_12
set_option maxHeartbeats 4000000 in
set_option maxRecDepth 100000 in
theorem C_X6_see (l : Launch) (X : Cx) (hI : Inj X) {a0 : Nat} (t0 : tY a0 = 5) (a1 : Int32) (a2 : Int32) (a3 : Int32) (a4 : Int32) (h : Hp) (r0 : Int32) (h0 : Hp) (hf : f_X6_see a0 a1 a2 a3 a4 h = some (r0, h0)) : Mi l X yX6_see cX6_see 5 (some .int) 1 24 h [.ref (X.2.2.2 a0), .int a1, .int a2, .int a3, .int a4] r0 h0 := by
  refine BD_of (own := RX6) hI rfl (by decide) (Nat.le_of_ble_eq_true rfl) ?_
  intro p e s m args below meth c S hr hlk hK hN
  obtain ⟨hx, hb, hml, hown, hts⟩ := id S
  have B64 : ∀ (z0 : Nat) (tz0 : tY z0 = 1) (z1 : Int32) (z2 : Int32) (z3 : Int32) (z4 : Int32) (h : Hp), g_X6_see_64 a0 a1 a2 a3 a4 z0 z1 z2 z3 z4 h = some (r0, h0) → BK p l e ({ frames := 1, cells := 0, slots := 0, locals := 24 }) s m args below meth c (MQ below (cQi X r0 h0) args s 0 0 (AD X)) X 5 64 [(0, .ref (X.2.2.2 a0))] [.int z4, .int z3, .int z2, .int z1, .ref (X.2.2.2 z0)] h := by
    intro z0 tz0 z1 z2 z3 z4 h hf H locs ls hl hH
    unfold g_X6_see_64 at hf
    obtain ⟨r3, h2, hq1, hf⟩ := bnd_ok hf
    refine wk_callVi (ci := 1) (b := z0) (As := [.int z1, .int z2, .int z3, .int z4]) (rest := []) S hK hN hH tz0 (by decide) rfl (C_X1_add l X hI tz0 z1 z2 z3 z4 _ _ _ hq1) (cwV 4 hts (gV wU_in m_559 m_560 m_561 m_40 m_562) rfl rfl rfl hdV_X1_add ⟨Nat.le_of_ble_eq_true rfl, Nat.le_of_ble_eq_true rfl⟩) hl.1 rfl rfl (Nat.le_of_ble_eq_true rfl) dX6_see_64 ⟨Nat.zero_le _, Nat.zero_le _⟩ (fun H locs hH => ?_)
    refine lv_if_eq (tgt := 80) hx hb dX6_see_67 (by decide) (fun c4 => ?_) (fun c4 => ?_)
    · replace hf := ite_t c4 hf
      refine lv_bipush (v := (-4)) hx hb dX6_see_80 (by decide) ?_
      exact wk_iret S hr hlk hK hN hH hf dX6_see_82
    · replace hf := ite_f c4 hf
      refine lv_aload_n hx hb dX6_see_70 rfl (lv_at hl 0 rfl) ?_
      refine wk_getr (ci := 5) (k := 7) S hK hH j_X6 t0 rfl hq_5_7 (hts _ (wU_in _ m_223)) dX6_see_71 ?_
      refine wk_getiN (ci := 1) (k := 4) S hK hH j_X1 (tr_5_7 t0) rfl hq_1_4 (hN _ n_204) dX6_see_74 ?_
      refine lv_goto (tgt := 82) hx hb dX6_see_77 (by decide) ?_
      exact wk_iret S hr hlk hK hN hH hf dX6_see_82
  intro H locs ls hl hH
  replace hl : lv_has ls 5 [(0, .ref (X.2.2.2 a0)), (1, .int a1), (2, .int a2), (3, .int a3), (4, .int a4)] := hl
  unfold f_X6_see at hf
  refine lv_aload_n hx hb dX6_see_0 rfl (lv_at hl 0 rfl) ?_
  refine wk_getr (ci := 5) (k := 1) S hK hH j_X6 t0 rfl hq_5_1 (hts _ (wU_in _ m_217)) dX6_see_1 ?_
  refine lv_iload_n hx hb dX6_see_4 rfl (lv_at hl 1 rfl) ?_
  obtain ⟨r7, h6, hq5, hf⟩ := bnd_ok hf
  refine wk_callVi (ci := 2) (b := (rF a0 1)) (As := [.int a1]) (rest := []) S hK hN hH (tr_5_1 t0) (by decide) rfl (C_X2_hasEnding l X hI (tr_5_1 t0) a1 _ _ _ hq5) (cwV 1 hts (gV wU_in m_395 m_396 m_397 m_37 m_398) rfl rfl rfl hdV_X2_hasEnding ⟨Nat.le_of_ble_eq_true rfl, Nat.le_of_ble_eq_true rfl⟩) hl.1 rfl rfl (Nat.le_of_ble_eq_true rfl) dX6_see_5 ⟨Nat.zero_le _, Nat.zero_le _⟩ (fun H locs hH => ?_)
  refine lv_if_ne (tgt := 13) hx hb dX6_see_8 (by decide) (fun c8 => ?_) (fun c8 => ?_)
  · replace hf := ite_f c8 hf
    refine lv_iload_n hx hb dX6_see_13 rfl (lv_at hl 2 rfl) ?_
    refine lv_if_lt (tgt := 43) hx hb dX6_see_14 (by decide) (fun c9 => ?_) (fun c9 => ?_)
    · replace hf := ite_t c9 hf
      refine lv_bipush (v := (-2)) hx hb dX6_see_43 (by decide) ?_
      exact wk_iret S hr hlk hK hN hH hf dX6_see_45
    · replace hf := ite_f c9 hf
      refine lv_iload_n hx hb dX6_see_17 rfl (lv_at hl 2 rfl) ?_
      refine lv_iconst (v := 4) hx hb dX6_see_18 (by decide) ?_
      refine lv_icmp_gt (tgt := 43) hx hb dX6_see_19 (by decide) (fun c10 => ?_) (fun c10 => ?_)
      · replace hf := ite_t c10 hf
        refine lv_bipush (v := (-2)) hx hb dX6_see_43 (by decide) ?_
        exact wk_iret S hr hlk hK hN hH hf dX6_see_45
      · replace hf := ite_f c10 hf
        refine lv_iload_n hx hb dX6_see_22 rfl (lv_at hl 3 rfl) ?_
        refine lv_iconst (v := 1) hx hb dX6_see_23 (by decide) ?_
        refine lv_icmp_lt (tgt := 43) hx hb dX6_see_24 (by decide) (fun c11 => ?_) (fun c11 => ?_)
        · replace hf := ite_t c11 hf
          refine lv_bipush (v := (-2)) hx hb dX6_see_43 (by decide) ?_
          exact wk_iret S hr hlk hK hN hH hf dX6_see_45
        · replace hf := ite_f c11 hf
          refine lv_iload_n hx hb dX6_see_27 rfl (lv_at hl 3 rfl) ?_
          refine lv_iconst (v := 5) hx hb dX6_see_28 (by decide) ?_
          refine lv_icmp_gt (tgt := 43) hx hb dX6_see_29 (by decide) (fun c12 => ?_) (fun c12 => ?_)
          · replace hf := ite_t c12 hf
            refine lv_bipush (v := (-2)) hx hb dX6_see_43 (by decide) ?_
            exact wk_iret S hr hlk hK hN hH hf dX6_see_45
          · replace hf := ite_f c12 hf
            refine lv_iload hx hb dX6_see_32 (lv_at hl 4 rfl) ?_
            refine lv_if_lt (tgt := 43) hx hb dX6_see_34 (by decide) (fun c13 => ?_) (fun c13 => ?_)
            · replace hf := ite_t c13 hf
              refine lv_bipush (v := (-2)) hx hb dX6_see_43 (by decide) ?_
              exact wk_iret S hr hlk hK hN hH hf dX6_see_45
            · replace hf := ite_f c13 hf
              refine lv_iload hx hb dX6_see_37 (lv_at hl 4 rfl) ?_
              refine lv_iconst (v := 1) hx hb dX6_see_39 (by decide) ?_
              refine lv_icmp_le (tgt := 46) hx hb dX6_see_40 (by decide) (fun c14 => ?_) (fun c14 => ?_)
              · replace hf := ite_t c14 hf
                refine lv_aload_n hx hb dX6_see_46 rfl (lv_at hl 0 rfl) ?_
                refine wk_getr (ci := 5) (k := 7) S hK hH j_X6 t0 rfl hq_5_7 (hts _ (wU_in _ m_223)) dX6_see_47 ?_
                refine lv_iload_n hx hb dX6_see_50 rfl (lv_at hl 1 rfl) ?_
                refine lv_iload_n hx hb dX6_see_51 rfl (lv_at hl 2 rfl) ?_
                refine lv_iload_n hx hb dX6_see_52 rfl (lv_at hl 3 rfl) ?_
                refine lv_iload hx hb dX6_see_53 (lv_at hl 4 rfl) ?_
                refine lv_iconst (v := 1) hx hb dX6_see_55 (by decide) ?_
                refine lv_icmp_ne (tgt := 63) hx hb dX6_see_56 (by decide) (fun c15 => ?_) (fun c15 => ?_)
                · replace hf := ite_f c15 hf
                  refine lv_iconst (v := 0) hx hb dX6_see_63 (by decide) ?_
                  exact B64 _ (tr_5_7 t0) _ _ _ _ _ hf H locs ls (lv_sub hl [0] rfl) hH
                · replace hf := ite_t c15 hf
                  refine lv_iconst (v := 1) hx hb dX6_see_59 (by decide) ?_
                  refine lv_goto (tgt := 64) hx hb dX6_see_60 (by decide) ?_
                  exact B64 _ (tr_5_7 t0) _ _ _ _ _ hf H locs ls (lv_sub hl [0] rfl) hH
              · replace hf := ite_f c14 hf
                refine lv_bipush (v := (-2)) hx hb dX6_see_43 (by decide) ?_
                exact wk_iret S hr hlk hK hN hH hf dX6_see_45
  · replace hf := ite_t c8 hf
    refine lv_iconst (v := (-1)) hx hb dX6_see_11 (by decide) ?_
    exact wk_iret S hr hlk hK hN hH hf dX6_see_12
set_option maxHeartbeats 4000000 in
set_option maxRecDepth 100000 in
theorem C_X6_unsee (l : Launch) (X : Cx) (hI : Inj X) {a0 : Nat} (t0 : tY a0 = 5) (h : Hp) (r0 : Int32) (h0 : Hp) (hf : f_X6_unsee a0 h = some (r0, h0)) : Mi l X yX6_unsee cX6_unsee 2 (some .int) 0 0 h [.ref (X.2.2.2 a0)] r0 h0 := by
  refine BD_of (own := RX6) hI rfl (by decide) (Nat.le_of_ble_eq_true rfl) ?_
  intro p e s m args below meth c S hr hlk hK hN
  obtain ⟨hx, hb, hml, hown, hts⟩ := id S
  intro H locs ls hl hH
  replace hl : lv_has ls 2 [(0, .ref (X.2.2.2 a0))] := hl
  unfold f_X6_unsee at hf
  refine lv_aload_n hx hb dX6_unsee_0 rfl (lv_at hl 0 rfl) ?_
  refine wk_getr (ci := 5) (k := 7) S hK hH j_X6 t0 rfl hq_5_7 (hts _ (wU_in _ m_223)) dX6_unsee_1 ?_
  refine wk_getiN (ci := 1) (k := 4) S hK hH j_X1 (tr_5_7 t0) rfl hq_1_4 (hN _ n_204) dX6_unsee_4 ?_
  refine lv_istore_n (lv' := [(1, .int ((h.1 (rF a0 7) 4))), (0, .ref (X.2.2.2 a0))]) hx hb dX6_unsee_7 rfl hl (by decide) rfl (fun ls hl => ?_)
  refine lv_aload_n hx hb dX6_unsee_8 rfl (lv_at hl 1 rfl) ?_
  refine wk_getr (ci := 5) (k := 7) S hK hH j_X6 t0 rfl hq_5_7 (hts _ (wU_in _ m_223)) dX6_unsee_9 ?_
  refine lv_iconst (v := 0) hx hb dX6_unsee_12 (by decide) ?_
  refine wk_putiN (ci := 1) (k := 4) S hK hH j_X1 tyX1 tyX1_ok nmX1 (tr_5_7 t0) rfl hq_1_4 rfl hd_1_4 (hN _ n_204) dX6_unsee_13 (fun H locs hH => ?_)
  refine lv_iload_n hx hb dX6_unsee_16 rfl (lv_at hl 0 rfl) ?_
  exact wk_iret S hr hlk hK hN hH hf dX6_unsee_17
set_option maxHeartbeats 4000000 in
set_option maxRecDepth 100000 in
theorem C_X6_which (l : Launch) (X : Cx) (hI : Inj X) {a0 : Nat} (t0 : tY a0 = 5) (a1 : Int32) (h : Hp) (r0 : Int32) (h0 : Hp) (hf : f_X6_which a0 a1 h = some (r0, h0)) : Mi l X yX6_which cX6_which 6 (some .int) 4 102 h [.ref (X.2.2.2 a0), .int a1] r0 h0 := by
  refine BD_of (own := RX6) hI rfl (by decide) (Nat.le_of_ble_eq_true rfl) ?_
  intro p e s m args below meth c S hr hlk hK hN
  obtain ⟨hx, hb, hml, hown, hts⟩ := id S
  have B89 : ∀ (k20 : Int32 → Int32 → Int32 → Hp → Option (Int32 × Hp)) (hk20 : ∀ (x2 : Int32) (x3 : Int32) (x4 : Int32) (h : Hp), k20 x2 x3 x4 h = some (r0, h0) → BK p l e ({ frames := 4, cells := 0, slots := 0, locals := 102 }) s m args below meth c (MQ below (cQi X r0 h0) args s 0 0 (AD X)) X 6 20 [(0, .ref (X.2.2.2 a0)), (1, .int a1), (2, .int x2), (3, .int x3), (4, .int x4)] [] h) (x2 : Int32) (x3 : Int32) (x4 : Int32) (h : Hp), g_X6_which_89 a0 a1 k20 x2 x3 x4 h = some (r0, h0) → BK p l e ({ frames := 4, cells := 0, slots := 0, locals := 102 }) s m args below meth c (MQ below (cQi X r0 h0) args s 0 0 (AD X)) X 6 89 [(0, .ref (X.2.2.2 a0)), (1, .int a1), (2, .int x2), (3, .int x3), (4, .int x4)] [] h := by
    intro k20 hk20 x2 x3 x4 h hf H locs ls hl hH
    unfold g_X6_which_89 at hf
    refine lv_iinc (v := (x4 + (1 : Int32))) (lv' := [(4, .int ((x4 + (1 : Int32)))), (0, .ref (X.2.2.2 a0)), (1, .int a1), (2, .int x2), (3, .int x3)]) hx hb dX6_which_89 hl (k := 4) rfl rfl (by decide) rfl (fun ls hl => ?_)
    refine lv_goto (tgt := 20) hx hb dX6_which_92 (by decide) ?_
    exact hk20 _ _ _ _ hf H locs ls (lv_sub hl [1, 2, 3, 4, 0] rfl) hH
  have B85 : ∀ (k20 : Int32 → Int32 → Int32 → Hp → Option (Int32 × Hp)) (hk20 : ∀ (x2 : Int32) (x3 : Int32) (x4 : Int32) (h : Hp), k20 x2 x3 x4 h = some (r0, h0) → BK p l e ({ frames := 4, cells := 0, slots := 0, locals := 102 }) s m args below meth c (MQ below (cQi X r0 h0) args s 0 0 (AD X)) X 6 20 [(0, .ref (X.2.2.2 a0)), (1, .int a1), (2, .int x2), (3, .int x3), (4, .int x4)] [] h) (x2 : Int32) (x4 : Int32) (z0 : Int32) (h : Hp), g_X6_which_85 a0 a1 k20 x2 x4 z0 h = some (r0, h0) → BK p l e ({ frames := 4, cells := 0, slots := 0, locals := 102 }) s m args below meth c (MQ below (cQi X r0 h0) args s 0 0 (AD X)) X 6 85 [(0, .ref (X.2.2.2 a0)), (1, .int a1), (2, .int x2), (4, .int x4)] [.int z0] h := by
    intro k20 hk20 x2 x4 z0 h hf H locs ls hl hH
    unfold g_X6_which_85 at hf
    refine lv_istore_n (lv' := [(3, .int z0), (0, .ref (X.2.2.2 a0)), (1, .int a1), (2, .int x2), (4, .int x4)]) hx hb dX6_which_85 rfl hl (by decide) rfl (fun ls hl => ?_)
    refine lv_iinc (v := (x2 + (1 : Int32))) (lv' := [(2, .int ((x2 + (1 : Int32)))), (3, .int z0), (0, .ref (X.2.2.2 a0)), (1, .int a1), (4, .int x4)]) hx hb dX6_which_86 hl (k := 3) rfl rfl (by decide) rfl (fun ls hl => ?_)
    exact B89 k20 hk20 _ _ _ _ hf H locs ls (lv_sub hl [2, 3, 0, 1, 4] rfl) hH
  have B20 : ∀ (k20 : Int32 → Int32 → Int32 → Hp → Option (Int32 × Hp)) (hk20 : ∀ (x2 : Int32) (x3 : Int32) (x4 : Int32) (h : Hp), k20 x2 x3 x4 h = some (r0, h0) → BK p l e ({ frames := 4, cells := 0, slots := 0, locals := 102 }) s m args below meth c (MQ below (cQi X r0 h0) args s 0 0 (AD X)) X 6 20 [(0, .ref (X.2.2.2 a0)), (1, .int a1), (2, .int x2), (3, .int x3), (4, .int x4)] [] h) (x2 : Int32) (x3 : Int32) (x4 : Int32) (h : Hp), g_X6_which_20 a0 a1 k20 x2 x3 x4 h = some (r0, h0) → BK p l e ({ frames := 4, cells := 0, slots := 0, locals := 102 }) s m args below meth c (MQ below (cQi X r0 h0) args s 0 0 (AD X)) X 6 20 [(0, .ref (X.2.2.2 a0)), (1, .int a1), (2, .int x2), (3, .int x3), (4, .int x4)] [] h := by
    intro k20 hk20 x2 x3 x4 h hf H locs ls hl hH
    unfold g_X6_which_20 at hf
    refine lv_iload hx hb dX6_which_20 (lv_at hl 4 rfl) ?_
    refine lv_bipush (v := 125) hx hb dX6_which_22 (by decide) ?_
    refine lv_icmp_ge (tgt := 95) hx hb dX6_which_24 (by decide) (fun c1 => ?_) (fun c1 => ?_)
    · replace hf := ite_t c1 hf
      refine lv_iload_n hx hb dX6_which_95 rfl (lv_at hl 1 rfl) ?_
      refine lv_if_ne (tgt := 103) hx hb dX6_which_96 (by decide) (fun c2 => ?_) (fun c2 => ?_)
      · replace hf := ite_f c2 hf
        refine lv_iload_n hx hb dX6_which_103 rfl (lv_at hl 3 rfl) ?_
        exact wk_iret S hr hlk hK hN hH hf dX6_which_104
      · replace hf := ite_t c2 hf
        refine lv_iload_n hx hb dX6_which_99 rfl (lv_at hl 2 rfl) ?_
        refine lv_goto (tgt := 104) hx hb dX6_which_100 (by decide) ?_
        exact wk_iret S hr hlk hK hN hH hf dX6_which_104
    · replace hf := ite_f c1 hf
      refine lv_bipush (v := 111) hx hb dX6_which_27 (by decide) ?_
      refine lv_bipush (v := 100) hx hb dX6_which_29 (by decide) ?_
      refine lv_iload hx hb dX6_which_31 (lv_at hl 4 rfl) ?_
      refine lv_bipush (v := 25) hx hb dX6_which_33 (by decide) ?_
      refine lv_idiv hx hb dX6_which_35 (by decide) ?_
      refine lv_imul hx hb dX6_which_36 ?_
      refine lv_iadd hx hb dX6_which_37 ?_
      refine lv_bipush (v := 10) hx hb dX6_which_38 (by decide) ?_
      refine lv_iload hx hb dX6_which_40 (lv_at hl 4 rfl) ?_
      refine lv_iconst (v := 5) hx hb dX6_which_42 (by decide) ?_
      refine lv_idiv hx hb dX6_which_43 (by decide) ?_
      refine lv_iconst (v := 5) hx hb dX6_which_44 (by decide) ?_
      refine lv_irem hx hb dX6_which_45 (by decide) ?_
      refine lv_imul hx hb dX6_which_46 ?_
      refine lv_iadd hx hb dX6_which_47 ?_
      refine lv_iload hx hb dX6_which_48 (lv_at hl 4 rfl) ?_
      refine lv_iconst (v := 5) hx hb dX6_which_50 (by decide) ?_
      refine lv_irem hx hb dX6_which_51 (by decide) ?_
      refine lv_iadd hx hb dX6_which_52 ?_
      refine lv_istore (lv' := [(5, .int (((((111 : Int32) + ((100 : Int32) * (x4 / (25 : Int32)))) + ((10 : Int32) * ((x4 / (5 : Int32)) - (x4 / (5 : Int32)) / (5 : Int32) * (5 : Int32)))) + (x4 - x4 / (5 : Int32) * (5 : Int32))))), (0, .ref (X.2.2.2 a0)), (1, .int a1), (2, .int x2), (3, .int x3), (4, .int x4)]) hx hb dX6_which_53 hl (by decide) rfl (fun ls hl => ?_)
      refine lv_aload_n hx hb dX6_which_55 rfl (lv_at hl 1 rfl) ?_
      refine wk_getr (ci := 5) (k := 7) S hK hH j_X6 t0 rfl hq_5_7 (hts _ (wU_in _ m_223)) dX6_which_56 ?_
      refine lv_iload hx hb dX6_which_59 (lv_at hl 0 rfl) ?_
      refine lv_aload_n hx hb dX6_which_61 rfl (lv_at hl 1 rfl) ?_
      refine wk_getr (ci := 5) (k := 1) S hK hH j_X6 t0 rfl hq_5_1 (hts _ (wU_in _ m_217)) dX6_which_62 ?_
      refine lv_aload_n hx hb dX6_which_65 rfl (lv_at hl 1 rfl) ?_
      refine wk_getr (ci := 5) (k := 2) S hK hH j_X6 t0 rfl hq_5_2 (hts _ (wU_in _ m_218)) dX6_which_66 ?_
      obtain ⟨r5, h4, hq3, hf⟩ := bnd_ok hf
      refine wk_callVi (ci := 1) (b := (rF a0 7)) (As := [.int (((((111 : Int32) + ((100 : Int32) * (x4 / (25 : Int32)))) + ((10 : Int32) * ((x4 / (5 : Int32)) - (x4 / (5 : Int32)) / (5 : Int32) * (5 : Int32)))) + (x4 - x4 / (5 : Int32) * (5 : Int32)))), .ref (X.2.2.2 (rF a0 1)), .ref (X.2.2.2 (rF a0 2))]) (rest := []) S hK hN hH (tr_5_7 t0) (by decide) rfl (C_X1_agreeWith l X hI (tr_5_7 t0) ((((111 : Int32) + ((100 : Int32) * (x4 / (25 : Int32)))) + ((10 : Int32) * ((x4 / (5 : Int32)) - (x4 / (5 : Int32)) / (5 : Int32) * (5 : Int32)))) + (x4 - x4 / (5 : Int32) * (5 : Int32))) (tr_5_1 t0) (tr_5_2 t0) _ _ _ hq3) (cwV 3 hts (gV wU_in m_571 m_572 m_573 m_40 m_574) rfl rfl rfl hdV_X1_agreeWith ⟨Nat.le_of_ble_eq_true rfl, Nat.le_of_ble_eq_true rfl⟩) hl.1 rfl rfl (Nat.le_of_ble_eq_true rfl) dX6_which_69 ⟨Nat.zero_le _, Nat.zero_le _⟩ (fun H locs hH => ?_)
      refine lv_if_eq (tgt := 89) hx hb dX6_which_72 (by decide) (fun c6 => ?_) (fun c6 => ?_)
      · replace hf := ite_t c6 hf
        exact B89 k20 hk20 _ _ _ _ hf H locs ls (lv_sub hl [1, 2, 3, 4, 5] rfl) hH
      · replace hf := ite_f c6 hf
        refine lv_iload_n hx hb dX6_which_75 rfl (lv_at hl 3 rfl) ?_
        refine lv_if_ne (tgt := 84) hx hb dX6_which_76 (by decide) (fun c7 => ?_) (fun c7 => ?_)
        · replace hf := ite_f c7 hf
          refine lv_iload_n hx hb dX6_which_84 rfl (lv_at hl 4 rfl) ?_
          exact B85 k20 hk20 _ _ _ _ hf H locs ls (lv_sub hl [1, 2, 3, 5] rfl) hH
        · replace hf := ite_t c7 hf
          refine lv_iload hx hb dX6_which_79 (lv_at hl 0 rfl) ?_
          refine lv_goto (tgt := 85) hx hb dX6_which_81 (by decide) ?_
          exact B85 k20 hk20 _ _ _ _ hf H locs ls (lv_sub hl [1, 2, 3, 5] rfl) hH
  have BL20 : ∀ (n : Nat) (x2 : Int32) (x3 : Int32) (x4 : Int32) (h : Hp), f_X6_which_20 a0 a1 n x2 x3 x4 h = some (r0, h0) → BK p l e ({ frames := 4, cells := 0, slots := 0, locals := 102 }) s m args below meth c (MQ below (cQi X r0 h0) args s 0 0 (AD X)) X 6 20 [(0, .ref (X.2.2.2 a0)), (1, .int a1), (2, .int x2), (3, .int x3), (4, .int x4)] [] h := by
    intro n
    induction n with
    | zero => intro x2 x3 x4 h hf; cases hf
    | succ n ih => intro x2 x3 x4 h hf; exact B20 _ ih _ _ _ _ hf
  have B12 : ∀ (h : Hp), g_X6_which_12 a0 a1 h = some (r0, h0) → BK p l e ({ frames := 4, cells := 0, slots := 0, locals := 102 }) s m args below meth c (MQ below (cQi X r0 h0) args s 0 0 (AD X)) X 6 12 [(0, .ref (X.2.2.2 a0)), (1, .int a1)] [] h := by
    intro h hf H locs ls hl hH
    unfold g_X6_which_12 at hf
    refine lv_iconst (v := 0) hx hb dX6_which_12 (by decide) ?_
    refine lv_istore_n (lv' := [(2, .int ((0 : Int32))), (0, .ref (X.2.2.2 a0)), (1, .int a1)]) hx hb dX6_which_13 rfl hl (by decide) rfl (fun ls hl => ?_)
    refine lv_bipush (v := (-9)) hx hb dX6_which_14 (by decide) ?_
    refine lv_istore_n (lv' := [(3, .int ((-9 : Int32))), (2, .int ((0 : Int32))), (0, .ref (X.2.2.2 a0)), (1, .int a1)]) hx hb dX6_which_16 rfl hl (by decide) rfl (fun ls hl => ?_)
    refine lv_iconst (v := 0) hx hb dX6_which_17 (by decide) ?_
    refine lv_istore (lv' := [(4, .int ((0 : Int32))), (3, .int ((-9 : Int32))), (2, .int ((0 : Int32))), (0, .ref (X.2.2.2 a0)), (1, .int a1)]) hx hb dX6_which_18 hl (by decide) rfl (fun ls hl => ?_)
    exact BL20 FU _ _ _ _ hf H locs ls (lv_sub hl [3, 4, 2, 1, 0] rfl) hH
  intro H locs ls hl hH
  replace hl : lv_has ls 6 [(0, .ref (X.2.2.2 a0)), (1, .int a1)] := hl
  unfold f_X6_which at hf
  refine lv_iload_n hx hb dX6_which_0 rfl (lv_at hl 1 rfl) ?_
  refine lv_if_eq (tgt := 12) hx hb dX6_which_1 (by decide) (fun c8 => ?_) (fun c8 => ?_)
  · replace hf := ite_t c8 hf
    exact B12 _ hf H locs ls (lv_sub hl [0, 1] rfl) hH
  · replace hf := ite_f c8 hf
    refine lv_iload_n hx hb dX6_which_4 rfl (lv_at hl 1 rfl) ?_
    refine lv_iconst (v := 1) hx hb dX6_which_5 (by decide) ?_
    refine lv_icmp_eq (tgt := 12) hx hb dX6_which_6 (by decide) (fun c9 => ?_) (fun c9 => ?_)
    · replace hf := ite_t c9 hf
      exact B12 _ hf H locs ls (lv_sub hl [0, 1] rfl) hH
    · replace hf := ite_f c9 hf
      refine lv_bipush (v := (-2)) hx hb dX6_which_9 (by decide) ?_
      exact wk_iret S hr hlk hK hN hH hf dX6_which_11
