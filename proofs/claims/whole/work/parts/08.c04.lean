set_option maxHeartbeats 4000000 in
set_option maxRecDepth 100000 in
theorem C_X6_power (l : Launch) (X : Cx) (hI : Inj X) (a0 : Int32) (a1 : Int32) (h : Hp) (r0 : Int32) (h0 : Hp) (hf : f_X6_power a0 a1 h = some (r0, h0)) : Mi l X yX6_power cX6_power 4 (some .int) 0 0 h [.int a0, .int a1] r0 h0 := by
  refine BD_of (own := RX6) hI rfl (by decide) (Nat.le_of_ble_eq_true rfl) ?_
  intro p e s m args below meth c S hr hlk hK hN
  obtain ⟨hx, hb, hml, hown, hts⟩ := id S
  have B4 : ∀ (k4 : Int32 → Int32 → Hp → Option (Int32 × Hp)) (hk4 : ∀ (x2 : Int32) (x3 : Int32) (h : Hp), k4 x2 x3 h = some (r0, h0) → BK p l e ({ frames := 0, cells := 0, slots := 0, locals := 0 }) s m args below meth c (MQ below (cQi X r0 h0) args s 0 0 (AD X)) X 4 4 [(0, .int a0), (1, .int a1), (2, .int x2), (3, .int x3)] [] h) (x2 : Int32) (x3 : Int32) (h : Hp), g_X6_power_4 a0 a1 k4 x2 x3 h = some (r0, h0) → BK p l e ({ frames := 0, cells := 0, slots := 0, locals := 0 }) s m args below meth c (MQ below (cQi X r0 h0) args s 0 0 (AD X)) X 4 4 [(0, .int a0), (1, .int a1), (2, .int x2), (3, .int x3)] [] h := by
    intro k4 hk4 x2 x3 h hf H locs ls hl hH
    unfold g_X6_power_4 at hf
    refine lv_iload_n hx hb dX6_power_4 rfl (lv_at hl 3 rfl) ?_
    refine lv_iload_n hx hb dX6_power_5 rfl (lv_at hl 1 rfl) ?_
    refine lv_icmp_ge (tgt := 19) hx hb dX6_power_6 (by decide) (fun c1 => ?_) (fun c1 => ?_)
    · replace hf := ite_t c1 hf
      refine lv_iload_n hx hb dX6_power_19 rfl (lv_at hl 2 rfl) ?_
      exact wk_iret S hr hlk hK hN hH hf dX6_power_20
    · replace hf := ite_f c1 hf
      refine lv_iload_n hx hb dX6_power_9 rfl (lv_at hl 2 rfl) ?_
      refine lv_iload_n hx hb dX6_power_10 rfl (lv_at hl 0 rfl) ?_
      refine lv_imul hx hb dX6_power_11 ?_
      refine lv_istore_n (lv' := [(2, .int ((x2 * a0))), (0, .int a0), (1, .int a1), (3, .int x3)]) hx hb dX6_power_12 rfl hl (by decide) rfl (fun ls hl => ?_)
      refine lv_iinc (v := (x3 + (1 : Int32))) (lv' := [(3, .int ((x3 + (1 : Int32)))), (2, .int ((x2 * a0))), (0, .int a0), (1, .int a1)]) hx hb dX6_power_13 hl (k := 3) rfl rfl (by decide) rfl (fun ls hl => ?_)
      refine lv_goto (tgt := 4) hx hb dX6_power_16 (by decide) ?_
      exact hk4 _ _ _ hf H locs ls (lv_sub hl [2, 3, 1, 0] rfl) hH
  have BL4 : ∀ (n : Nat) (x2 : Int32) (x3 : Int32) (h : Hp), f_X6_power_4 a0 a1 n x2 x3 h = some (r0, h0) → BK p l e ({ frames := 0, cells := 0, slots := 0, locals := 0 }) s m args below meth c (MQ below (cQi X r0 h0) args s 0 0 (AD X)) X 4 4 [(0, .int a0), (1, .int a1), (2, .int x2), (3, .int x3)] [] h := by
    intro n
    induction n with
    | zero => intro x2 x3 h hf; cases hf
    | succ n ih => intro x2 x3 h hf; exact B4 _ ih _ _ _ hf
  intro H locs ls hl hH
  replace hl : lv_has ls 4 [(0, .int a0), (1, .int a1)] := hl
  unfold f_X6_power at hf
  refine lv_iconst (v := 1) hx hb dX6_power_0 (by decide) ?_
  refine lv_istore_n (lv' := [(2, .int ((1 : Int32))), (0, .int a0), (1, .int a1)]) hx hb dX6_power_1 rfl hl (by decide) rfl (fun ls hl => ?_)
  refine lv_iconst (v := 0) hx hb dX6_power_2 (by decide) ?_
  refine lv_istore_n (lv' := [(3, .int ((0 : Int32))), (2, .int ((1 : Int32))), (0, .int a0), (1, .int a1)]) hx hb dX6_power_3 rfl hl (by decide) rfl (fun ls hl => ?_)
  exact BL4 FU _ _ _ hf H locs ls (lv_sub hl [2, 3, 1, 0] rfl) hH
set_option maxHeartbeats 4000000 in
set_option maxRecDepth 100000 in
theorem C_X6_fails (l : Launch) (X : Cx) (hI : Inj X) {a0 : Nat} (t0 : tY a0 = 5) (a1 : Int32) (a2 : Int32) (a3 : Int32) (a4 : Int32) (h : Hp) (r0 : Int32) (h0 : Hp) (hf : f_X6_fails a0 a1 a2 a3 a4 h = some (r0, h0)) : Mi l X yX6_fails cX6_fails 10 (some .int) 4 99 h [.ref (X.2.2.2 a0), .int a1, .int a2, .int a3, .int a4] r0 h0 := by
  refine BD_of (own := RX6) hI rfl (by decide) (Nat.le_of_ble_eq_true rfl) ?_
  intro p e s m args below meth c S hr hlk hK hN
  obtain ⟨hx, hb, hml, hown, hts⟩ := id S
  have B119 : ∀ (k55 : Int32 → Int32 → Int32 → Int32 → Hp → Option (Int32 × Hp)) (hk55 : ∀ (x5 : Int32) (x6 : Int32) (x7 : Int32) (x8 : Int32) (h : Hp), k55 x5 x6 x7 x8 h = some (r0, h0) → BK p l e ({ frames := 4, cells := 0, slots := 0, locals := 99 }) s m args below meth c (MQ below (cQi X r0 h0) args s 0 0 (AD X)) X 10 55 [(0, .ref (X.2.2.2 a0)), (3, .int a3), (4, .int a4), (5, .int x5), (6, .int x6), (7, .int x7), (8, .int x8)] [] h) (x5 : Int32) (x6 : Int32) (x7 : Int32) (x8 : Int32) (h : Hp), g_X6_fails_119 a0 a1 a2 a3 a4 k55 x5 x6 x7 x8 h = some (r0, h0) → BK p l e ({ frames := 4, cells := 0, slots := 0, locals := 99 }) s m args below meth c (MQ below (cQi X r0 h0) args s 0 0 (AD X)) X 10 119 [(0, .ref (X.2.2.2 a0)), (3, .int a3), (4, .int a4), (5, .int x5), (6, .int x6), (7, .int x7), (8, .int x8)] [] h := by
    intro k55 hk55 x5 x6 x7 x8 h hf H locs ls hl hH
    unfold g_X6_fails_119 at hf
    refine lv_iinc (v := (x8 + (1 : Int32))) (lv' := [(8, .int ((x8 + (1 : Int32)))), (0, .ref (X.2.2.2 a0)), (3, .int a3), (4, .int a4), (5, .int x5), (6, .int x6), (7, .int x7)]) hx hb dX6_fails_119 hl (k := 6) rfl rfl (by decide) rfl (fun ls hl => ?_)
    refine lv_goto (tgt := 55) hx hb dX6_fails_122 (by decide) ?_
    exact hk55 _ _ _ _ _ hf H locs ls (lv_sub hl [1, 2, 3, 4, 5, 6, 0] rfl) hH
  have B55 : ∀ (k55 : Int32 → Int32 → Int32 → Int32 → Hp → Option (Int32 × Hp)) (hk55 : ∀ (x5 : Int32) (x6 : Int32) (x7 : Int32) (x8 : Int32) (h : Hp), k55 x5 x6 x7 x8 h = some (r0, h0) → BK p l e ({ frames := 4, cells := 0, slots := 0, locals := 99 }) s m args below meth c (MQ below (cQi X r0 h0) args s 0 0 (AD X)) X 10 55 [(0, .ref (X.2.2.2 a0)), (3, .int a3), (4, .int a4), (5, .int x5), (6, .int x6), (7, .int x7), (8, .int x8)] [] h) (x5 : Int32) (x6 : Int32) (x7 : Int32) (x8 : Int32) (h : Hp), g_X6_fails_55 a0 a1 a2 a3 a4 k55 x5 x6 x7 x8 h = some (r0, h0) → BK p l e ({ frames := 4, cells := 0, slots := 0, locals := 99 }) s m args below meth c (MQ below (cQi X r0 h0) args s 0 0 (AD X)) X 10 55 [(0, .ref (X.2.2.2 a0)), (3, .int a3), (4, .int a4), (5, .int x5), (6, .int x6), (7, .int x7), (8, .int x8)] [] h := by
    intro k55 hk55 x5 x6 x7 x8 h hf H locs ls hl hH
    unfold g_X6_fails_55 at hf
    refine lv_iload hx hb dX6_fails_55 (lv_at hl 6 rfl) ?_
    refine lv_aload_n hx hb dX6_fails_57 rfl (lv_at hl 0 rfl) ?_
    refine wk_getr (ci := 5) (k := 2) S hK hH j_X6 t0 rfl hq_5_2 (hts _ (wU_in _ m_218)) dX6_fails_58 ?_
    obtain ⟨r3, h2, hq1, hf⟩ := bnd_ok hf
    refine wk_callVi (ci := 4) (b := (rF a0 2)) (As := []) (rest := [.int x8]) S hK hN hH (tr_5_2 t0) (by decide) rfl (C_X4_allChanges l X hI (tr_5_2 t0) _ _ _ hq1) (cwV 0 hts (gV wU_in m_325 m_326 m_327 m_38 m_328) rfl rfl rfl hdV_X4_allChanges ⟨Nat.le_of_ble_eq_true rfl, Nat.le_of_ble_eq_true rfl⟩) hl.1 rfl rfl (Nat.le_of_ble_eq_true rfl) dX6_fails_61 ⟨Nat.zero_le _, Nat.zero_le _⟩ (fun H locs hH => ?_)
    refine lv_icmp_gt (tgt := 125) hx hb dX6_fails_64 (by decide) (fun c4 => ?_) (fun c4 => ?_)
    · replace hf := ite_t c4 hf
      refine lv_iload hx hb dX6_fails_125 (lv_at hl 5 rfl) ?_
      refine lv_bipush (v := 10) hx hb dX6_fails_127 (by decide) ?_
      refine lv_aload_n hx hb dX6_fails_129 rfl (lv_at hl 0 rfl) ?_
      refine wk_getr (ci := 5) (k := 2) S hK hH j_X6 t0 rfl hq_5_2 (hts _ (wU_in _ m_218)) dX6_fails_130 ?_
      refine wk_getiN (ci := 4) (k := 5) S hK hH j_X4 (tr_5_2 t0) rfl hq_4_5 (hN _ n_151) dX6_fails_133 ?_
      obtain ⟨r7, h6, hq5, hf⟩ := bnd_ok hf
      refine wk_callSi (As := [.int ((10 : Int32)), .int ((h2.1 (rF a0 2) 5))]) (rest := [.int x7]) S hK hN hH (C_X6_power l X hI (10 : Int32) (h2.1 (rF a0 2) 5) _ _ _ hq5) (va_cwS 2 hts (gS wU_in m_587 m_588 m_35 m_589) rfl rfl rfl hdS_X6_power ⟨Nat.le_of_ble_eq_true rfl, Nat.le_of_ble_eq_true rfl⟩) hl.1 rfl rfl (Nat.le_of_ble_eq_true rfl) dX6_fails_136 ⟨Nat.zero_le _, Nat.zero_le _⟩ (fun H locs hH => ?_)
      refine lv_iload hx hb dX6_fails_139 (lv_at hl 2 rfl) ?_
      obtain ⟨r10, h9, hq8, hf⟩ := bnd_ok hf
      refine wk_callSi (As := [.int x7, .int r7, .int a4]) (rest := []) S hK hN hH (C_X6_fraction l X hI x7 r7 a4 _ _ _ hq8) (va_cwS 3 hts (gS wU_in m_546 m_547 m_35 m_548) rfl rfl rfl hdS_X6_fraction ⟨Nat.le_of_ble_eq_true rfl, Nat.le_of_ble_eq_true rfl⟩) hl.1 rfl rfl (Nat.le_of_ble_eq_true rfl) dX6_fails_141 ⟨Nat.zero_le _, Nat.zero_le _⟩ (fun H locs hH => ?_)
      exact wk_iret S hr hlk hK hN hH hf dX6_fails_144
    · replace hf := ite_f c4 hf
      refine lv_aload_n hx hb dX6_fails_67 rfl (lv_at hl 0 rfl) ?_
      refine wk_getr (ci := 5) (k := 2) S hK hH j_X6 t0 rfl hq_5_2 (hts _ (wU_in _ m_218)) dX6_fails_68 ?_
      refine lv_iload hx hb dX6_fails_71 (lv_at hl 3 rfl) ?_
      refine lv_iload hx hb dX6_fails_73 (lv_at hl 6 rfl) ?_
      obtain ⟨r13, h12, hq11, hf⟩ := bnd_ok hf
      refine wk_callVi (ci := 4) (b := (rF a0 2)) (As := [.int x5, .int x8]) (rest := []) S hK hN hH (tr_5_2 t0) (by decide) rfl (C_X4_walkWith l X hI (tr_5_2 t0) x5 x8 _ _ _ hq11) (cwV 2 hts (gV wU_in m_586 m_341 m_342 m_38 m_343) rfl rfl rfl hdV_X4_walkWith ⟨Nat.le_of_ble_eq_true rfl, Nat.le_of_ble_eq_true rfl⟩) hl.1 rfl rfl (Nat.le_of_ble_eq_true rfl) dX6_fails_75 ⟨Nat.zero_le _, Nat.zero_le _⟩ (fun H locs hH => ?_)
      refine lv_iload hx hb dX6_fails_78 (lv_at hl 4 rfl) ?_
      refine lv_icmp_ne (tgt := 119) hx hb dX6_fails_80 (by decide) (fun c14 => ?_) (fun c14 => ?_)
      · replace hf := ite_f c14 hf
        exact B119 k55 hk55 _ _ _ _ _ hf H locs ls (lv_sub hl [0, 1, 2, 3, 4, 5, 6] rfl) hH
      · replace hf := ite_t c14 hf
        refine lv_iload hx hb dX6_fails_83 (lv_at hl 6 rfl) ?_
        obtain ⟨r17, h16, hq15, hf⟩ := bnd_ok hf
        refine wk_callSi (As := [.int x8]) (rest := []) S hK hN hH (C_J6_bitCount_0f7a4 l X hI x8 _ _ _ hq15) (va_cwS 1 hts (gS wU_in m_538 m_539 m_44 m_540) rfl rfl rfl hdS_J6_bitCount_0f7a4 ⟨Nat.le_of_ble_eq_true rfl, Nat.le_of_ble_eq_true rfl⟩) hl.1 rfl rfl (Nat.le_of_ble_eq_true rfl) dX6_fails_85 ⟨Nat.zero_le _, Nat.zero_le _⟩ (fun H locs hH => ?_)
        refine lv_istore (lv' := [(9, .int r17), (0, .ref (X.2.2.2 a0)), (3, .int a3), (4, .int a4), (5, .int x5), (6, .int x6), (7, .int x7), (8, .int x8)]) hx hb dX6_fails_88 hl (by decide) rfl (fun ls hl => ?_)
        refine lv_iload hx hb dX6_fails_90 (lv_at hl 6 rfl) ?_
        refine lv_bipush (v := 10) hx hb dX6_fails_92 (by decide) ?_
        refine lv_iload_n hx hb dX6_fails_94 rfl (lv_at hl 2 rfl) ?_
        refine lv_isub hx hb dX6_fails_95 ?_
        refine lv_iload hx hb dX6_fails_96 (lv_at hl 0 rfl) ?_
        obtain ⟨r20, h19, hq18, hf⟩ := bnd_ok hf
        refine wk_callSi (As := [.int (((10 : Int32) - a3)), .int r17]) (rest := [.int x7]) S hK hN hH (C_X6_power l X hI ((10 : Int32) - a3) r17 _ _ _ hq18) (va_cwS 2 hts (gS wU_in m_587 m_588 m_35 m_589) rfl rfl rfl hdS_X6_power ⟨Nat.le_of_ble_eq_true rfl, Nat.le_of_ble_eq_true rfl⟩) hl.1 rfl rfl (Nat.le_of_ble_eq_true rfl) dX6_fails_98 ⟨Nat.zero_le _, Nat.zero_le _⟩ (fun H locs hH => ?_)
        refine lv_iload_n hx hb dX6_fails_101 rfl (lv_at hl 2 rfl) ?_
        refine lv_aload_n hx hb dX6_fails_102 rfl (lv_at hl 1 rfl) ?_
        refine wk_getr (ci := 5) (k := 2) S hK hH j_X6 t0 rfl hq_5_2 (hts _ (wU_in _ m_218)) dX6_fails_103 ?_
        refine wk_getiN (ci := 4) (k := 5) S hK hH j_X4 (tr_5_2 t0) rfl hq_4_5 (hN _ n_151) dX6_fails_106 ?_
        refine lv_iload hx hb dX6_fails_109 (lv_at hl 0 rfl) ?_
        refine lv_isub hx hb dX6_fails_111 ?_
        obtain ⟨r23, h22, hq21, hf⟩ := bnd_ok hf
        refine wk_callSi (As := [.int a3, .int (((h19.1 (rF a0 2) 5) - r17))]) (rest := [.int r20, .int x7]) S hK hN hH (C_X6_power l X hI a3 ((h19.1 (rF a0 2) 5) - r17) _ _ _ hq21) (va_cwS 2 hts (gS wU_in m_587 m_588 m_35 m_589) rfl rfl rfl hdS_X6_power ⟨Nat.le_of_ble_eq_true rfl, Nat.le_of_ble_eq_true rfl⟩) hl.1 rfl rfl (Nat.le_of_ble_eq_true rfl) dX6_fails_112 ⟨Nat.zero_le _, Nat.zero_le _⟩ (fun H locs hH => ?_)
        refine lv_imul hx hb dX6_fails_115 ?_
        refine lv_iadd hx hb dX6_fails_116 ?_
        refine lv_istore (lv' := [(7, .int ((x7 + (r20 * r23)))), (9, .int r17), (0, .ref (X.2.2.2 a0)), (3, .int a3), (4, .int a4), (5, .int x5), (6, .int x6), (8, .int x8)]) hx hb dX6_fails_117 hl (by decide) rfl (fun ls hl => ?_)
        exact B119 k55 hk55 _ _ _ _ _ hf H locs ls (lv_sub hl [2, 3, 4, 5, 6, 0, 7] rfl) hH
  have BL55 : ∀ (n : Nat) (x5 : Int32) (x6 : Int32) (x7 : Int32) (x8 : Int32) (h : Hp), f_X6_fails_55 a0 a1 a2 a3 a4 n x5 x6 x7 x8 h = some (r0, h0) → BK p l e ({ frames := 4, cells := 0, slots := 0, locals := 99 }) s m args below meth c (MQ below (cQi X r0 h0) args s 0 0 (AD X)) X 10 55 [(0, .ref (X.2.2.2 a0)), (3, .int a3), (4, .int a4), (5, .int x5), (6, .int x6), (7, .int x7), (8, .int x8)] [] h := by
    intro n
    induction n with
    | zero => intro x5 x6 x7 x8 h hf; cases hf
    | succ n ih => intro x5 x6 x7 x8 h hf; exact B55 _ ih _ _ _ _ _ hf
  intro H locs ls hl hH
  replace hl : lv_has ls 10 [(0, .ref (X.2.2.2 a0)), (1, .int a1), (2, .int a2), (3, .int a3), (4, .int a4)] := hl
  unfold f_X6_fails at hf
  refine lv_aload_n hx hb dX6_fails_0 rfl (lv_at hl 0 rfl) ?_
  refine wk_getr (ci := 5) (k := 1) S hK hH j_X6 t0 rfl hq_5_1 (hts _ (wU_in _ m_217)) dX6_fails_1 ?_
  refine lv_iload_n hx hb dX6_fails_4 rfl (lv_at hl 1 rfl) ?_
  refine lv_iload_n hx hb dX6_fails_5 rfl (lv_at hl 2 rfl) ?_
  obtain ⟨r26, h25, hq24, hf⟩ := bnd_ok hf
  refine wk_callVi (ci := 2) (b := (rF a0 1)) (As := [.int a1, .int a2]) (rest := []) S hK hN hH (tr_5_1 t0) (by decide) rfl (C_X2_hasPair l X hI (tr_5_1 t0) a1 a2 _ _ _ hq24) (cwV 2 hts (gV wU_in m_419 m_420 m_421 m_37 m_422) rfl rfl rfl hdV_X2_hasPair ⟨Nat.le_of_ble_eq_true rfl, Nat.le_of_ble_eq_true rfl⟩) hl.1 rfl rfl (Nat.le_of_ble_eq_true rfl) dX6_fails_6 ⟨Nat.zero_le _, Nat.zero_le _⟩ (fun H locs hH => ?_)
  refine lv_if_ne (tgt := 14) hx hb dX6_fails_9 (by decide) (fun c27 => ?_) (fun c27 => ?_)
  · replace hf := ite_f c27 hf
    refine lv_iload_n hx hb dX6_fails_14 rfl (lv_at hl 3 rfl) ?_
    refine lv_if_lt (tgt := 24) hx hb dX6_fails_15 (by decide) (fun c28 => ?_) (fun c28 => ?_)
    · replace hf := ite_t c28 hf
      refine lv_bipush (v := (-2)) hx hb dX6_fails_24 (by decide) ?_
      exact wk_iret S hr hlk hK hN hH hf dX6_fails_26
    · replace hf := ite_f c28 hf
      refine lv_iload_n hx hb dX6_fails_18 rfl (lv_at hl 3 rfl) ?_
      refine lv_bipush (v := 10) hx hb dX6_fails_19 (by decide) ?_
      refine lv_icmp_le (tgt := 27) hx hb dX6_fails_21 (by decide) (fun c29 => ?_) (fun c29 => ?_)
      · replace hf := ite_t c29 hf
        refine lv_aload_n hx hb dX6_fails_27 rfl (lv_at hl 0 rfl) ?_
        refine wk_getr (ci := 5) (k := 1) S hK hH j_X6 t0 rfl hq_5_1 (hts _ (wU_in _ m_217)) dX6_fails_28 ?_
        refine lv_iload_n hx hb dX6_fails_31 rfl (lv_at hl 1 rfl) ?_
        refine lv_iload_n hx hb dX6_fails_32 rfl (lv_at hl 2 rfl) ?_
        obtain ⟨r32, h31, hq30, hf⟩ := bnd_ok hf
        refine wk_callVi (ci := 2) (b := (rF a0 1)) (As := [.int a1, .int a2]) (rest := []) S hK hN hH (tr_5_1 t0) (by decide) rfl (C_X2_joined l X hI (tr_5_1 t0) a1 a2 _ _ _ hq30) (cwV 2 hts (gV wU_in m_430 m_334 m_335 m_37 m_336) rfl rfl rfl hdV_X2_joined ⟨Nat.le_of_ble_eq_true rfl, Nat.le_of_ble_eq_true rfl⟩) hl.1 rfl rfl (Nat.le_of_ble_eq_true rfl) dX6_fails_33 ⟨Nat.zero_le _, Nat.zero_le _⟩ (fun H locs hH => ?_)
        refine lv_istore (lv' := [(5, .int r32), (0, .ref (X.2.2.2 a0)), (1, .int a1), (2, .int a2), (3, .int a3), (4, .int a4)]) hx hb dX6_fails_36 hl (by decide) rfl (fun ls hl => ?_)
        refine lv_aload_n hx hb dX6_fails_38 rfl (lv_at hl 1 rfl) ?_
        refine wk_getr (ci := 5) (k := 2) S hK hH j_X6 t0 rfl hq_5_2 (hts _ (wU_in _ m_218)) dX6_fails_39 ?_
        refine lv_iload_n hx hb dX6_fails_42 rfl (lv_at hl 2 rfl) ?_
        refine lv_iload_n hx hb dX6_fails_43 rfl (lv_at hl 3 rfl) ?_
        obtain ⟨r35, h34, hq33, hf⟩ := bnd_ok hf
        refine wk_callVi (ci := 4) (b := (rF a0 2)) (As := [.int a1, .int a2]) (rest := []) S hK hN hH (tr_5_2 t0) (by decide) rfl (C_X4_makeOf l X hI (tr_5_2 t0) a1 a2 _ _ _ hq33) (cwV 2 hts (gV wU_in m_425 m_376 m_377 m_38 m_378) rfl rfl rfl hdV_X4_makeOf ⟨Nat.le_of_ble_eq_true rfl, Nat.le_of_ble_eq_true rfl⟩) hl.1 rfl rfl (Nat.le_of_ble_eq_true rfl) dX6_fails_44 ⟨Nat.zero_le _, Nat.zero_le _⟩ (fun H locs hH => ?_)
        refine lv_istore (lv' := [(6, .int r35), (5, .int r32), (0, .ref (X.2.2.2 a0)), (1, .int a1), (2, .int a2), (3, .int a3), (4, .int a4)]) hx hb dX6_fails_47 hl (by decide) rfl (fun ls hl => ?_)
        refine lv_iconst (v := 0) hx hb dX6_fails_49 (by decide) ?_
        refine lv_istore (lv' := [(7, .int ((0 : Int32))), (6, .int r35), (5, .int r32), (0, .ref (X.2.2.2 a0)), (1, .int a1), (2, .int a2), (3, .int a3), (4, .int a4)]) hx hb dX6_fails_50 hl (by decide) rfl (fun ls hl => ?_)
        refine lv_iconst (v := 0) hx hb dX6_fails_52 (by decide) ?_
        refine lv_istore (lv' := [(8, .int ((0 : Int32))), (7, .int ((0 : Int32))), (6, .int r35), (5, .int r32), (0, .ref (X.2.2.2 a0)), (1, .int a1), (2, .int a2), (3, .int a3), (4, .int a4)]) hx hb dX6_fails_53 hl (by decide) rfl (fun ls hl => ?_)
        exact BL55 FU _ _ _ _ _ hf H locs ls (lv_sub hl [4, 7, 8, 3, 2, 1, 0] rfl) hH
      · replace hf := ite_f c29 hf
        refine lv_bipush (v := (-2)) hx hb dX6_fails_24 (by decide) ?_
        exact wk_iret S hr hlk hK hN hH hf dX6_fails_26
  · replace hf := ite_t c27 hf
    refine lv_iconst (v := (-1)) hx hb dX6_fails_12 (by decide) ?_
    exact wk_iret S hr hlk hK hN hH hf dX6_fails_13
set_option maxHeartbeats 4000000 in
set_option maxRecDepth 100000 in
theorem C_X6_seed (l : Launch) (X : Cx) (hI : Inj X) {a0 : Nat} (t0 : tY a0 = 5) (a1 : Int64) (h : Hp) (r0 : Int64) (h0 : Hp) (hf : f_X6_seed a0 a1 h = some (r0, h0)) : Ml l X yX6_seed cX6_seed 5 (some .long) 0 0 h [.ref (X.2.2.2 a0), .long a1] r0 h0 := by
  refine BD_of (own := RX6) hI rfl (by decide) (Nat.le_of_ble_eq_true rfl) ?_
  intro p e s m args below meth c S hr hlk hK hN
  obtain ⟨hx, hb, hml, hown, hts⟩ := id S
  intro H locs ls hl hH
  replace hl : lv_has ls 5 [(0, .ref (X.2.2.2 a0)), (1, .long a1)] := hl
  unfold f_X6_seed at hf
  refine lv_aload_n hx hb dX6_seed_0 rfl (lv_at hl 0 rfl) ?_
  refine wk_getl (ci := 5) (k := 8) S hK hH j_X6 t0 rfl hq_5_8 (hts _ (wU_in _ m_224)) dX6_seed_1 ?_
  refine lv_lstore_n (lv' := [(3, .long ((h.2 a0))), (0, .ref (X.2.2.2 a0)), (1, .long a1)]) hx hb dX6_seed_4 rfl hl (by decide) rfl (fun ls hl => ?_)
  refine lv_aload_n hx hb dX6_seed_5 rfl (lv_at hl 1 rfl) ?_
  refine lv_lload_n hx hb dX6_seed_6 rfl (lv_at hl 2 rfl) ?_
  refine wk_putl (ci := 5) (k := 8) S hK hH j_X6 tyX6 tyX6_ok nmX6 t0 rfl hq_5_8l rfl hd_5_8 (hts _ (wU_in _ m_224)) dX6_seed_7 (fun H locs hH => ?_)
  refine lv_lload_n hx hb dX6_seed_10 rfl (lv_at hl 0 rfl) ?_
  exact wk_lret S hr hlk hK hN hH hf dX6_seed_11
set_option maxHeartbeats 4000000 in
set_option maxRecDepth 100000 in
theorem C_X6_rootDrawnFrom (l : Launch) (X : Cx) (hI : Inj X) (a0 : Int32) (h : Hp) (r0 : Int32) (h0 : Hp) (hf : f_X6_rootDrawnFrom a0 h = some (r0, h0)) : Mi l X yX6_rootDrawnFrom cX6_rootDrawnFrom 5 (some .int) 0 0 h [.int a0] r0 h0 := by
  refine BD_of (own := RX6) hI rfl (by decide) (Nat.le_of_ble_eq_true rfl) ?_
  intro p e s m args below meth c S hr hlk hK hN
  obtain ⟨hx, hb, hml, hown, hts⟩ := id S
  intro H locs ls hl hH
  replace hl : lv_has ls 5 [(0, .int a0)] := hl
  unfold f_X6_rootDrawnFrom at hf
  refine lv_iload_n hx hb dX6_rootDrawnFrom_0 rfl (lv_at hl 0 rfl) ?_
  refine lv_iconst (v := 5) hx hb dX6_rootDrawnFrom_1 (by decide) ?_
  refine lv_irem hx hb dX6_rootDrawnFrom_2 (by decide) ?_
  refine lv_iconst (v := 1) hx hb dX6_rootDrawnFrom_3 (by decide) ?_
  refine lv_iadd hx hb dX6_rootDrawnFrom_4 ?_
  refine lv_istore_n (lv' := [(1, .int (((a0 - a0 / (5 : Int32) * (5 : Int32)) + (1 : Int32)))), (0, .int a0)]) hx hb dX6_rootDrawnFrom_5 rfl hl (by decide) rfl (fun ls hl => ?_)
  refine lv_iload_n hx hb dX6_rootDrawnFrom_6 rfl (lv_at hl 1 rfl) ?_
  refine lv_bipush (v := 8) hx hb dX6_rootDrawnFrom_7 (by decide) ?_
  refine lv_idiv hx hb dX6_rootDrawnFrom_9 (by decide) ?_
  refine lv_iconst (v := 5) hx hb dX6_rootDrawnFrom_10 (by decide) ?_
  refine lv_irem hx hb dX6_rootDrawnFrom_11 (by decide) ?_
  refine lv_iconst (v := 1) hx hb dX6_rootDrawnFrom_12 (by decide) ?_
  refine lv_iadd hx hb dX6_rootDrawnFrom_13 ?_
  refine lv_istore_n (lv' := [(2, .int ((((a0 / (8 : Int32)) - (a0 / (8 : Int32)) / (5 : Int32) * (5 : Int32)) + (1 : Int32)))), (1, .int (((a0 - a0 / (5 : Int32) * (5 : Int32)) + (1 : Int32)))), (0, .int a0)]) hx hb dX6_rootDrawnFrom_14 rfl hl (by decide) rfl (fun ls hl => ?_)
  refine lv_iload_n hx hb dX6_rootDrawnFrom_15 rfl (lv_at hl 2 rfl) ?_
  refine lv_bipush (v := 64) hx hb dX6_rootDrawnFrom_16 (by decide) ?_
  refine lv_idiv hx hb dX6_rootDrawnFrom_18 (by decide) ?_
  refine lv_iconst (v := 5) hx hb dX6_rootDrawnFrom_19 (by decide) ?_
  refine lv_irem hx hb dX6_rootDrawnFrom_20 (by decide) ?_
  refine lv_iconst (v := 1) hx hb dX6_rootDrawnFrom_21 (by decide) ?_
  refine lv_iadd hx hb dX6_rootDrawnFrom_22 ?_
  refine lv_istore_n (lv' := [(3, .int ((((a0 / (64 : Int32)) - (a0 / (64 : Int32)) / (5 : Int32) * (5 : Int32)) + (1 : Int32)))), (2, .int ((((a0 / (8 : Int32)) - (a0 / (8 : Int32)) / (5 : Int32) * (5 : Int32)) + (1 : Int32)))), (1, .int (((a0 - a0 / (5 : Int32) * (5 : Int32)) + (1 : Int32)))), (0, .int a0)]) hx hb dX6_rootDrawnFrom_23 rfl hl (by decide) rfl (fun ls hl => ?_)
  refine lv_iload_n hx hb dX6_rootDrawnFrom_24 rfl (lv_at hl 3 rfl) ?_
  refine lv_sipush (v := 512) hx hb dX6_rootDrawnFrom_25 (by decide) ?_
  refine lv_idiv hx hb dX6_rootDrawnFrom_28 (by decide) ?_
  refine lv_iconst (v := 5) hx hb dX6_rootDrawnFrom_29 (by decide) ?_
  refine lv_irem hx hb dX6_rootDrawnFrom_30 (by decide) ?_
  refine lv_iconst (v := 1) hx hb dX6_rootDrawnFrom_31 (by decide) ?_
  refine lv_iadd hx hb dX6_rootDrawnFrom_32 ?_
  refine lv_istore (lv' := [(4, .int ((((a0 / (512 : Int32)) - (a0 / (512 : Int32)) / (5 : Int32) * (5 : Int32)) + (1 : Int32)))), (3, .int ((((a0 / (64 : Int32)) - (a0 / (64 : Int32)) / (5 : Int32) * (5 : Int32)) + (1 : Int32)))), (2, .int ((((a0 / (8 : Int32)) - (a0 / (8 : Int32)) / (5 : Int32) * (5 : Int32)) + (1 : Int32)))), (1, .int (((a0 - a0 / (5 : Int32) * (5 : Int32)) + (1 : Int32)))), (0, .int a0)]) hx hb dX6_rootDrawnFrom_33 hl (by decide) rfl (fun ls hl => ?_)
  refine lv_sipush (v := 1000) hx hb dX6_rootDrawnFrom_35 (by decide) ?_
  refine lv_iload_n hx hb dX6_rootDrawnFrom_38 rfl (lv_at hl 3 rfl) ?_
  refine lv_imul hx hb dX6_rootDrawnFrom_39 ?_
  refine lv_bipush (v := 100) hx hb dX6_rootDrawnFrom_40 (by decide) ?_
  refine lv_iload_n hx hb dX6_rootDrawnFrom_42 rfl (lv_at hl 2 rfl) ?_
  refine lv_imul hx hb dX6_rootDrawnFrom_43 ?_
  refine lv_iadd hx hb dX6_rootDrawnFrom_44 ?_
  refine lv_bipush (v := 10) hx hb dX6_rootDrawnFrom_45 (by decide) ?_
  refine lv_iload_n hx hb dX6_rootDrawnFrom_47 rfl (lv_at hl 1 rfl) ?_
  refine lv_imul hx hb dX6_rootDrawnFrom_48 ?_
  refine lv_iadd hx hb dX6_rootDrawnFrom_49 ?_
  refine lv_iload hx hb dX6_rootDrawnFrom_50 (lv_at hl 0 rfl) ?_
  refine lv_iadd hx hb dX6_rootDrawnFrom_52 ?_
  exact wk_iret S hr hlk hK hN hH hf dX6_rootDrawnFrom_53
set_option maxHeartbeats 4000000 in
set_option maxRecDepth 100000 in
theorem C_X6_drawn (l : Launch) (X : Cx) (hI : Inj X) {a0 : Nat} (t0 : tY a0 = 5) (a1 : Int32) (h : Hp) (r0 : Int32) (h0 : Hp) (hf : f_X6_drawn a0 a1 h = some (r0, h0)) : Mi l X yX6_drawn cX6_drawn 6 (some .int) 3 77 h [.ref (X.2.2.2 a0), .int a1] r0 h0 := by
  refine BD_of (own := RX6) hI rfl (by decide) (Nat.le_of_ble_eq_true rfl) ?_
  intro p e s m args below meth c S hr hlk hK hN
  obtain ⟨hx, hb, hml, hown, hts⟩ := id S
  have B18 : ∀ (k18 : Int32 → Int32 → Hp → Option (Int32 × Hp)) (hk18 : ∀ (x2 : Int32) (x3 : Int32) (h : Hp), k18 x2 x3 h = some (r0, h0) → BK p l e ({ frames := 3, cells := 0, slots := 0, locals := 77 }) s m args below meth c (MQ below (cQi X r0 h0) args s 0 0 (AD X)) X 6 18 [(0, .ref (X.2.2.2 a0)), (1, .int a1), (2, .int x2), (3, .int x3)] [] h) (x2 : Int32) (x3 : Int32) (h : Hp), g_X6_drawn_18 a0 a1 k18 x2 x3 h = some (r0, h0) → BK p l e ({ frames := 3, cells := 0, slots := 0, locals := 77 }) s m args below meth c (MQ below (cQi X r0 h0) args s 0 0 (AD X)) X 6 18 [(0, .ref (X.2.2.2 a0)), (1, .int a1), (2, .int x2), (3, .int x3)] [] h := by
    intro k18 hk18 x2 x3 h hf H locs ls hl hH
    unfold g_X6_drawn_18 at hf
    refine lv_iload_n hx hb dX6_drawn_18 rfl (lv_at hl 3 rfl) ?_
    refine lv_iload_n hx hb dX6_drawn_19 rfl (lv_at hl 1 rfl) ?_
    refine lv_icmp_ge (tgt := 84) hx hb dX6_drawn_20 (by decide) (fun c1 => ?_) (fun c1 => ?_)
    · replace hf := ite_t c1 hf
      refine lv_iload_n hx hb dX6_drawn_84 rfl (lv_at hl 2 rfl) ?_
      exact wk_iret S hr hlk hK hN hH hf dX6_drawn_85
    · replace hf := ite_f c1 hf
      refine lv_aload_n hx hb dX6_drawn_23 rfl (lv_at hl 0 rfl) ?_
      refine lv_aload_n hx hb dX6_drawn_24 rfl (lv_at hl 0 rfl) ?_
      refine wk_getl (ci := 5) (k := 8) S hK hH j_X6 t0 rfl hq_5_8 (hts _ (wU_in _ m_224)) dX6_drawn_25 ?_
      refine lv_ldc2 hx hb hown (hts _ (wU_in _ m_598)) dX6_drawn_28 ?_
      refine lv_lmul hx hb dX6_drawn_31 ?_
      refine lv_ldc2 hx hb hown (hts _ (wU_in _ m_599)) dX6_drawn_32 ?_
      refine lv_ladd hx hb dX6_drawn_35 ?_
      refine wk_putl (ci := 5) (k := 8) S hK hH j_X6 tyX6 tyX6_ok nmX6 t0 rfl hq_5_8l rfl hd_5_8 (hts _ (wU_in _ m_224)) dX6_drawn_36 (fun H locs hH => ?_)
      refine lv_aload_n hx hb dX6_drawn_39 rfl (lv_at hl 0 rfl) ?_
      refine wk_getl (ci := 5) (k := 8) S hK hH j_X6 t0 rfl hq_5_8 (hts _ (wU_in _ m_224)) dX6_drawn_40 ?_
      refine lv_bipush (v := 33) hx hb dX6_drawn_43 (by decide) ?_
      refine lv_lushr (v := ((((sL h a0 (((h.2 a0) * (6364136223846793005 : Int64)) + (1442695040888963407 : Int64))).2 a0)).toUInt64 >>> (((33 : Int32)).toInt64.toUInt64 &&& Int64.toUInt64 63)).toInt64) hx hb dX6_drawn_45 rfl ?_
      refine lv_l2i hx hb dX6_drawn_46 rfl ?_
      refine lv_istore (lv' := [(4, .int (((((((sL h a0 (((h.2 a0) * (6364136223846793005 : Int64)) + (1442695040888963407 : Int64))).2 a0)).toUInt64 >>> (((33 : Int32)).toInt64.toUInt64 &&& Int64.toUInt64 63)).toInt64)).toInt32)), (0, .ref (X.2.2.2 a0)), (1, .int a1), (2, .int x2), (3, .int x3)]) hx hb dX6_drawn_47 hl (by decide) rfl (fun ls hl => ?_)
      refine lv_iload hx hb dX6_drawn_49 (lv_at hl 0 rfl) ?_
      obtain ⟨r4, h3, hq2, hf⟩ := bnd_ok hf
      refine wk_callSi (As := [.int (((((((sL h a0 (((h.2 a0) * (6364136223846793005 : Int64)) + (1442695040888963407 : Int64))).2 a0)).toUInt64 >>> (((33 : Int32)).toInt64.toUInt64 &&& Int64.toUInt64 63)).toInt64)).toInt32)]) (rest := []) S hK hN hH (C_X6_rootDrawnFrom l X hI (((((((sL h a0 (((h.2 a0) * (6364136223846793005 : Int64)) + (1442695040888963407 : Int64))).2 a0)).toUInt64 >>> (((33 : Int32)).toInt64.toUInt64 &&& Int64.toUInt64 63)).toInt64)).toInt32) _ _ _ hq2) (va_cwS 1 hts (gS wU_in m_600 m_601 m_35 m_602) rfl rfl rfl hdS_X6_rootDrawnFrom ⟨Nat.le_of_ble_eq_true rfl, Nat.le_of_ble_eq_true rfl⟩) hl.1 rfl rfl (Nat.le_of_ble_eq_true rfl) dX6_drawn_51 ⟨Nat.zero_le _, Nat.zero_le _⟩ (fun H locs hH => ?_)
      refine lv_istore (lv' := [(5, .int r4), (4, .int (((((((sL h a0 (((h.2 a0) * (6364136223846793005 : Int64)) + (1442695040888963407 : Int64))).2 a0)).toUInt64 >>> (((33 : Int32)).toInt64.toUInt64 &&& Int64.toUInt64 63)).toInt64)).toInt32)), (0, .ref (X.2.2.2 a0)), (1, .int a1), (2, .int x2), (3, .int x3)]) hx hb dX6_drawn_54 hl (by decide) rfl (fun ls hl => ?_)
      refine lv_iload_n hx hb dX6_drawn_56 rfl (lv_at hl 4 rfl) ?_
      refine lv_aload_n hx hb dX6_drawn_57 rfl (lv_at hl 2 rfl) ?_
      refine wk_getr (ci := 5) (k := 2) S hK hH j_X6 t0 rfl hq_5_2 (hts _ (wU_in _ m_218)) dX6_drawn_58 ?_
      refine lv_iload hx hb dX6_drawn_61 (lv_at hl 0 rfl) ?_
      refine lv_aload_n hx hb dX6_drawn_63 rfl (lv_at hl 2 rfl) ?_
      refine wk_getr (ci := 5) (k := 2) S hK hH j_X6 t0 rfl hq_5_2 (hts _ (wU_in _ m_218)) dX6_drawn_64 ?_
      refine wk_getiN (ci := 4) (k := 5) S hK hH j_X4 (tr_5_2 t0) rfl hq_4_5 (hN _ n_151) dX6_drawn_67 ?_
      obtain ⟨r7, h6, hq5, hf⟩ := bnd_ok hf
      refine wk_callVi (ci := 4) (b := (rF a0 2)) (As := [.int r4, .int ((h3.1 (rF a0 2) 5))]) (rest := [.int x2]) S hK hN hH (tr_5_2 t0) (by decide) rfl (C_X4_walk l X hI (tr_5_2 t0) r4 (h3.1 (rF a0 2) 5) _ _ _ hq5) (cwV 2 hts (gV wU_in m_431 m_380 m_381 m_38 m_382) rfl rfl rfl hdV_X4_walk ⟨Nat.le_of_ble_eq_true rfl, Nat.le_of_ble_eq_true rfl⟩) hl.1 rfl rfl (Nat.le_of_ble_eq_true rfl) dX6_drawn_70 ⟨Nat.zero_le _, Nat.zero_le _⟩ (fun H locs hH => ?_)
      obtain ⟨r10, h9, hq8, hf⟩ := bnd_ok hf
      refine wk_callSi (As := [.int r7]) (rest := [.int x2]) S hK hN hH (C_X5_lengthOf l X hI r7 _ _ _ hq8) (va_cwS 1 hts (gS wU_in m_531 m_532 m_43 m_533) rfl rfl rfl hdS_X5_lengthOf ⟨Nat.le_of_ble_eq_true rfl, Nat.le_of_ble_eq_true rfl⟩) hl.1 rfl rfl (Nat.le_of_ble_eq_true rfl) dX6_drawn_73 ⟨Nat.zero_le _, Nat.zero_le _⟩ (fun H locs hH => ?_)
      refine lv_iadd hx hb dX6_drawn_76 ?_
      refine lv_istore_n (lv' := [(2, .int ((x2 + r10))), (5, .int r4), (4, .int (((((((sL h a0 (((h.2 a0) * (6364136223846793005 : Int64)) + (1442695040888963407 : Int64))).2 a0)).toUInt64 >>> (((33 : Int32)).toInt64.toUInt64 &&& Int64.toUInt64 63)).toInt64)).toInt32)), (0, .ref (X.2.2.2 a0)), (1, .int a1), (3, .int x3)]) hx hb dX6_drawn_77 rfl hl (by decide) rfl (fun ls hl => ?_)
      refine lv_iinc (v := (x3 + (1 : Int32))) (lv' := [(3, .int ((x3 + (1 : Int32)))), (2, .int ((x2 + r10))), (5, .int r4), (4, .int (((((((sL h a0 (((h.2 a0) * (6364136223846793005 : Int64)) + (1442695040888963407 : Int64))).2 a0)).toUInt64 >>> (((33 : Int32)).toInt64.toUInt64 &&& Int64.toUInt64 63)).toInt64)).toInt32)), (0, .ref (X.2.2.2 a0)), (1, .int a1)]) hx hb dX6_drawn_78 hl (k := 5) rfl rfl (by decide) rfl (fun ls hl => ?_)
      refine lv_goto (tgt := 18) hx hb dX6_drawn_81 (by decide) ?_
      exact hk18 _ _ _ hf H locs ls (lv_sub hl [4, 5, 1, 0] rfl) hH
  have BL18 : ∀ (n : Nat) (x2 : Int32) (x3 : Int32) (h : Hp), f_X6_drawn_18 a0 a1 n x2 x3 h = some (r0, h0) → BK p l e ({ frames := 3, cells := 0, slots := 0, locals := 77 }) s m args below meth c (MQ below (cQi X r0 h0) args s 0 0 (AD X)) X 6 18 [(0, .ref (X.2.2.2 a0)), (1, .int a1), (2, .int x2), (3, .int x3)] [] h := by
    intro n
    induction n with
    | zero => intro x2 x3 h hf; cases hf
    | succ n ih => intro x2 x3 h hf; exact B18 _ ih _ _ _ hf
  intro H locs ls hl hH
  replace hl : lv_has ls 6 [(0, .ref (X.2.2.2 a0)), (1, .int a1)] := hl
  unfold f_X6_drawn at hf
  refine lv_iload_n hx hb dX6_drawn_0 rfl (lv_at hl 1 rfl) ?_
  refine lv_iconst (v := 1) hx hb dX6_drawn_1 (by decide) ?_
  refine lv_icmp_lt (tgt := 11) hx hb dX6_drawn_2 (by decide) (fun c11 => ?_) (fun c11 => ?_)
  · replace hf := ite_t c11 hf
    refine lv_bipush (v := (-2)) hx hb dX6_drawn_11 (by decide) ?_
    exact wk_iret S hr hlk hK hN hH hf dX6_drawn_13
  · replace hf := ite_f c11 hf
    refine lv_iload_n hx hb dX6_drawn_5 rfl (lv_at hl 1 rfl) ?_
    refine lv_bipush (v := 20) hx hb dX6_drawn_6 (by decide) ?_
    refine lv_icmp_le (tgt := 14) hx hb dX6_drawn_8 (by decide) (fun c12 => ?_) (fun c12 => ?_)
    · replace hf := ite_t c12 hf
      refine lv_iconst (v := 0) hx hb dX6_drawn_14 (by decide) ?_
      refine lv_istore_n (lv' := [(2, .int ((0 : Int32))), (0, .ref (X.2.2.2 a0)), (1, .int a1)]) hx hb dX6_drawn_15 rfl hl (by decide) rfl (fun ls hl => ?_)
      refine lv_iconst (v := 0) hx hb dX6_drawn_16 (by decide) ?_
      refine lv_istore_n (lv' := [(3, .int ((0 : Int32))), (2, .int ((0 : Int32))), (0, .ref (X.2.2.2 a0)), (1, .int a1)]) hx hb dX6_drawn_17 rfl hl (by decide) rfl (fun ls hl => ?_)
      exact BL18 FU _ _ _ hf H locs ls (lv_sub hl [2, 3, 1, 0] rfl) hH
    · replace hf := ite_f c12 hf
      refine lv_bipush (v := (-2)) hx hb dX6_drawn_11 (by decide) ?_
      exact wk_iret S hr hlk hK hN hH hf dX6_drawn_13
set_option maxHeartbeats 4000000 in
set_option maxRecDepth 100000 in
theorem C_X6_isSlot (l : Launch) (X : Cx) (hI : Inj X) (a0 : Int32) (h : Hp) (r0 : Int32) (h0 : Hp) (hf : f_X6_isSlot a0 h = some (r0, h0)) : Mi l X yX6_isSlot cX6_isSlot 1 (some .boolean) 0 0 h [.int a0] r0 h0 := by
  refine BD_of (own := RX6) hI rfl (by decide) (Nat.le_of_ble_eq_true rfl) ?_
  intro p e s m args below meth c S hr hlk hK hN
  obtain ⟨hx, hb, hml, hown, hts⟩ := id S
  intro H locs ls hl hH
  replace hl : lv_has ls 1 [(0, .int a0)] := hl
  unfold f_X6_isSlot at hf
  refine lv_iload_n hx hb dX6_isSlot_0 rfl (lv_at hl 0 rfl) ?_
  refine lv_if_lt (tgt := 13) hx hb dX6_isSlot_1 (by decide) (fun c1 => ?_) (fun c1 => ?_)
  · replace hf := ite_t c1 hf
    refine lv_iconst (v := 0) hx hb dX6_isSlot_13 (by decide) ?_
    exact wk_zret S hr hlk hK hN hH rfl hf dX6_isSlot_14
  · replace hf := ite_f c1 hf
    refine lv_iload_n hx hb dX6_isSlot_4 rfl (lv_at hl 0 rfl) ?_
    refine lv_iconst (v := 2) hx hb dX6_isSlot_5 (by decide) ?_
    refine lv_icmp_ge (tgt := 13) hx hb dX6_isSlot_6 (by decide) (fun c2 => ?_) (fun c2 => ?_)
    · replace hf := ite_t c2 hf
      refine lv_iconst (v := 0) hx hb dX6_isSlot_13 (by decide) ?_
      exact wk_zret S hr hlk hK hN hH rfl hf dX6_isSlot_14
    · replace hf := ite_f c2 hf
      refine lv_iconst (v := 1) hx hb dX6_isSlot_9 (by decide) ?_
      refine lv_goto (tgt := 14) hx hb dX6_isSlot_10 (by decide) ?_
      exact wk_zret S hr hlk hK hN hH rfl hf dX6_isSlot_14
set_option maxHeartbeats 4000000 in
set_option maxRecDepth 100000 in
theorem C_X6_keep (l : Launch) (X : Cx) (hI : Inj X) {a0 : Nat} (t0 : tY a0 = 5) (a1 : Int32) (h : Hp) (r0 : Int32) (h0 : Hp) (hf : f_X6_keep a0 a1 h = some (r0, h0)) : Mi l X yX6_keep cX6_keep 2 (some .int) 2 61 h [.ref (X.2.2.2 a0), .int a1] r0 h0 := by
  refine BD_of (own := RX6) hI rfl (by decide) (Nat.le_of_ble_eq_true rfl) ?_
  intro p e s m args below meth c S hr hlk hK hN
  obtain ⟨hx, hb, hml, hown, hts⟩ := id S
  intro H locs ls hl hH
  replace hl : lv_has ls 2 [(0, .ref (X.2.2.2 a0)), (1, .int a1)] := hl
  unfold f_X6_keep at hf
  refine lv_iload_n hx hb dX6_keep_0 rfl (lv_at hl 1 rfl) ?_
  obtain ⟨r3, h2, hq1, hf⟩ := bnd_ok hf
  refine wk_callSi (As := [.int a1]) (rest := []) S hK hN hH (C_X6_isSlot l X hI a1 _ _ _ hq1) (va_cwS 1 hts (gS wU_in m_607 m_608 m_35 m_609) rfl rfl rfl hdS_X6_isSlot ⟨Nat.le_of_ble_eq_true rfl, Nat.le_of_ble_eq_true rfl⟩) hl.1 rfl rfl (Nat.le_of_ble_eq_true rfl) dX6_keep_1 ⟨Nat.zero_le _, Nat.zero_le _⟩ (fun H locs hH => ?_)
  refine lv_if_ne (tgt := 9) hx hb dX6_keep_4 (by decide) (fun c4 => ?_) (fun c4 => ?_)
  · replace hf := ite_f c4 hf
    refine lv_aload_n hx hb dX6_keep_9 rfl (lv_at hl 0 rfl) ?_
    refine wk_getr (ci := 5) (k := 4) S hK hH j_X6 t0 rfl hq_5_4 (hts _ (wU_in _ m_220)) dX6_keep_10 ?_
    refine lv_iload_n hx hb dX6_keep_13 rfl (lv_at hl 1 rfl) ?_
    obtain ⟨o5, hf⟩ := ite_ok hf
    refine wk_aald S hK hH (tr_5_4 t0) o5 dX6_keep_14 ?_
    refine lv_aload_n hx hb dX6_keep_15 rfl (lv_at hl 0 rfl) ?_
    refine wk_getr (ci := 5) (k := 2) S hK hH j_X6 t0 rfl hq_5_2 (hts _ (wU_in _ m_218)) dX6_keep_16 ?_
    obtain ⟨h7, hq6, hf⟩ := bind_ok hf
    refine wk_callVv (ci := 4) (b := (rF (rF a0 4) (a1).toNatClampNeg)) (As := [.ref (X.2.2.2 (rF a0 2))]) (rest := []) S hK hN hH (tr_kept (tr_5_4 t0) o5) (by decide) rfl (C_X4_takeFrom l X hI (tr_kept (tr_5_4 t0) o5) (tr_5_2 t0) _ _ hq6) (cwV 1 hts (gV wU_in m_497 m_498 m_499 m_38 m_500) rfl rfl rfl hdV_X4_takeFrom ⟨Nat.le_of_ble_eq_true rfl, Nat.le_of_ble_eq_true rfl⟩) hl.1 rfl rfl (Nat.le_of_ble_eq_true rfl) dX6_keep_19 ⟨Nat.zero_le _, Nat.zero_le _⟩ (fun H locs hH => ?_)
    refine lv_aload_n hx hb dX6_keep_22 rfl (lv_at hl 0 rfl) ?_
    refine wk_getr (ci := 5) (k := 5) S hK hH j_X6 t0 rfl hq_5_5 (hts _ (wU_in _ m_221)) dX6_keep_23 ?_
    refine lv_iload_n hx hb dX6_keep_26 rfl (lv_at hl 1 rfl) ?_
    refine lv_iconst (v := 1) hx hb dX6_keep_27 (by decide) ?_
    obtain ⟨o9, hf⟩ := ite_ok hf
    refine wk_zast S hK hH (tr_5_5 t0) o9 dX6_keep_28 (fun H locs hH => ?_)
    refine lv_aload_n hx hb dX6_keep_29 rfl (lv_at hl 0 rfl) ?_
    refine wk_getr (ci := 5) (k := 2) S hK hH j_X6 t0 rfl hq_5_2 (hts _ (wU_in _ m_218)) dX6_keep_30 ?_
    obtain ⟨r12, h11, hq10, hf⟩ := bnd_ok hf
    refine wk_callVi (ci := 4) (b := (rF a0 2)) (As := []) (rest := []) S hK hN hH (tr_5_2 t0) (by decide) rfl (C_X4_formCount l X hI (tr_5_2 t0) _ _ _ hq10) (cwV 0 hts (gV wU_in m_383 m_384 m_385 m_38 m_386) rfl rfl rfl hdV_X4_formCount ⟨Nat.le_of_ble_eq_true rfl, Nat.le_of_ble_eq_true rfl⟩) hl.1 rfl rfl (Nat.le_of_ble_eq_true rfl) dX6_keep_33 ⟨Nat.zero_le _, Nat.zero_le _⟩ (fun H locs hH => ?_)
    exact wk_iret S hr hlk hK hN hH hf dX6_keep_36
  · replace hf := ite_t c4 hf
    refine lv_iconst (v := (-1)) hx hb dX6_keep_7 (by decide) ?_
    exact wk_iret S hr hlk hK hN hH hf dX6_keep_8
set_option maxHeartbeats 4000000 in
set_option maxRecDepth 100000 in
theorem C_X6_again (l : Launch) (X : Cx) (hI : Inj X) {a0 : Nat} (t0 : tY a0 = 5) (a1 : Int32) (h : Hp) (r0 : Int32) (h0 : Hp) (hf : f_X6_again a0 a1 h = some (r0, h0)) : Mi l X yX6_again cX6_again 2 (some .int) 2 61 h [.ref (X.2.2.2 a0), .int a1] r0 h0 := by
  refine BD_of (own := RX6) hI rfl (by decide) (Nat.le_of_ble_eq_true rfl) ?_
  intro p e s m args below meth c S hr hlk hK hN
  obtain ⟨hx, hb, hml, hown, hts⟩ := id S
  intro H locs ls hl hH
  replace hl : lv_has ls 2 [(0, .ref (X.2.2.2 a0)), (1, .int a1)] := hl
  unfold f_X6_again at hf
  refine lv_iload_n hx hb dX6_again_0 rfl (lv_at hl 1 rfl) ?_
  obtain ⟨r3, h2, hq1, hf⟩ := bnd_ok hf
  refine wk_callSi (As := [.int a1]) (rest := []) S hK hN hH (C_X6_isSlot l X hI a1 _ _ _ hq1) (va_cwS 1 hts (gS wU_in m_607 m_608 m_35 m_609) rfl rfl rfl hdS_X6_isSlot ⟨Nat.le_of_ble_eq_true rfl, Nat.le_of_ble_eq_true rfl⟩) hl.1 rfl rfl (Nat.le_of_ble_eq_true rfl) dX6_again_1 ⟨Nat.zero_le _, Nat.zero_le _⟩ (fun H locs hH => ?_)
  refine lv_if_ne (tgt := 9) hx hb dX6_again_4 (by decide) (fun c4 => ?_) (fun c4 => ?_)
  · replace hf := ite_f c4 hf
    refine lv_aload_n hx hb dX6_again_9 rfl (lv_at hl 0 rfl) ?_
    refine wk_getr (ci := 5) (k := 5) S hK hH j_X6 t0 rfl hq_5_5 (hts _ (wU_in _ m_221)) dX6_again_10 ?_
    refine lv_iload_n hx hb dX6_again_13 rfl (lv_at hl 1 rfl) ?_
    obtain ⟨o5, hf⟩ := ite_ok hf
    refine wk_zald S hK hH (tr_5_5 t0) o5 dX6_again_14 ?_
    refine lv_if_ne (tgt := 21) hx hb dX6_again_15 (by decide) (fun c6 => ?_) (fun c6 => ?_)
    · replace hf := ite_f c6 hf
      refine lv_aload_n hx hb dX6_again_21 rfl (lv_at hl 0 rfl) ?_
      refine wk_getr (ci := 5) (k := 2) S hK hH j_X6 t0 rfl hq_5_2 (hts _ (wU_in _ m_218)) dX6_again_22 ?_
      refine lv_aload_n hx hb dX6_again_25 rfl (lv_at hl 0 rfl) ?_
      refine wk_getr (ci := 5) (k := 4) S hK hH j_X6 t0 rfl hq_5_4 (hts _ (wU_in _ m_220)) dX6_again_26 ?_
      refine lv_iload_n hx hb dX6_again_29 rfl (lv_at hl 1 rfl) ?_
      obtain ⟨o7, hf⟩ := ite_ok hf
      refine wk_aald S hK hH (tr_5_4 t0) o7 dX6_again_30 ?_
      obtain ⟨h9, hq8, hf⟩ := bind_ok hf
      refine wk_callVv (ci := 4) (b := (rF a0 2)) (As := [.ref (X.2.2.2 (rF (rF a0 4) (a1).toNatClampNeg))]) (rest := []) S hK hN hH (tr_5_2 t0) (by decide) rfl (C_X4_takeFrom l X hI (tr_5_2 t0) (tr_kept (tr_5_4 t0) o7) _ _ hq8) (cwV 1 hts (gV wU_in m_497 m_498 m_499 m_38 m_500) rfl rfl rfl hdV_X4_takeFrom ⟨Nat.le_of_ble_eq_true rfl, Nat.le_of_ble_eq_true rfl⟩) hl.1 rfl rfl (Nat.le_of_ble_eq_true rfl) dX6_again_31 ⟨Nat.zero_le _, Nat.zero_le _⟩ (fun H locs hH => ?_)
      refine lv_aload_n hx hb dX6_again_34 rfl (lv_at hl 0 rfl) ?_
      refine wk_getr (ci := 5) (k := 6) S hK hH j_X6 t0 rfl hq_5_6 (hts _ (wU_in _ m_222)) dX6_again_35 ?_
      refine lv_iconst (v := 0) hx hb dX6_again_38 (by decide) ?_
      refine wk_putiN (ci := 0) (k := 5) S hK hH j_X0 tyX0 tyX0_ok nmX0 (tr_5_6 t0) rfl hq_0_5 rfl hd_0_5 (hN _ n_178) dX6_again_39 (fun H locs hH => ?_)
      refine lv_aload_n hx hb dX6_again_42 rfl (lv_at hl 0 rfl) ?_
      refine wk_getr (ci := 5) (k := 2) S hK hH j_X6 t0 rfl hq_5_2 (hts _ (wU_in _ m_218)) dX6_again_43 ?_
      obtain ⟨r13, h12, hq11, hf⟩ := bnd_ok hf
      refine wk_callVi (ci := 4) (b := (rF a0 2)) (As := []) (rest := []) S hK hN hH (tr_5_2 t0) (by decide) rfl (C_X4_formCount l X hI (tr_5_2 t0) _ _ _ hq11) (cwV 0 hts (gV wU_in m_383 m_384 m_385 m_38 m_386) rfl rfl rfl hdV_X4_formCount ⟨Nat.le_of_ble_eq_true rfl, Nat.le_of_ble_eq_true rfl⟩) hl.1 rfl rfl (Nat.le_of_ble_eq_true rfl) dX6_again_46 ⟨Nat.zero_le _, Nat.zero_le _⟩ (fun H locs hH => ?_)
      exact wk_iret S hr hlk hK hN hH hf dX6_again_49
    · replace hf := ite_t c6 hf
      refine lv_bipush (v := (-3)) hx hb dX6_again_18 (by decide) ?_
      exact wk_iret S hr hlk hK hN hH hf dX6_again_20
  · replace hf := ite_t c4 hf
    refine lv_iconst (v := (-1)) hx hb dX6_again_7 (by decide) ?_
    exact wk_iret S hr hlk hK hN hH hf dX6_again_8
set_option maxHeartbeats 4000000 in
set_option maxRecDepth 100000 in
theorem C_X7_forgetForms (l : Launch) (X : Cx) (hI : Inj X) {a0 : Nat} (t0 : tY a0 = 6) (h : Hp) (h0 : Hp) (hf : f_X7_forgetForms a0 h = some h0) : Mv l X yX7_forgetForms cX7_forgetForms 2 none 0 0 h [.ref (X.2.2.2 a0)] h0 := by
  refine BD_of (own := RX7) hI rfl (by decide) (Nat.le_of_ble_eq_true rfl) ?_
  intro p e s m args below meth c S hr hlk hK hN
  obtain ⟨hx, hb, hml, hown, hts⟩ := id S
  have B3 : ∀ (k3 : Int32 → Hp → Option Hp) (hk3 : ∀ (x1 : Int32) (h : Hp), k3 x1 h = some h0 → BK p l e ({ frames := 0, cells := 0, slots := 0, locals := 0 }) s m args below meth c (MQ below (cQv X h0) args s 0 0 (AD X)) X 2 3 [(0, .ref (X.2.2.2 a0)), (1, .int x1)] [] h) (x1 : Int32) (h : Hp), g_X7_forgetForms_3 a0 k3 x1 h = some h0 → BK p l e ({ frames := 0, cells := 0, slots := 0, locals := 0 }) s m args below meth c (MQ below (cQv X h0) args s 0 0 (AD X)) X 2 3 [(0, .ref (X.2.2.2 a0)), (1, .int x1)] [] h := by
    intro k3 hk3 x1 h hf H locs ls hl hH
    unfold g_X7_forgetForms_3 at hf
    refine lv_iload_n hx hb dX7_forgetForms_3 rfl (lv_at hl 1 rfl) ?_
    refine lv_bipush (v := 32) hx hb dX7_forgetForms_4 (by decide) ?_
    refine lv_icmp_ge (tgt := 23) hx hb dX7_forgetForms_6 (by decide) (fun c1 => ?_) (fun c1 => ?_)
    · replace hf := ite_t c1 hf
      exact wk_vret S hr hlk hK hN hH hf dX7_forgetForms_23
    · replace hf := ite_f c1 hf
      refine lv_aload_n hx hb dX7_forgetForms_9 rfl (lv_at hl 0 rfl) ?_
      refine wk_getr (ci := 6) (k := 2) S hK hH j_X7 t0 rfl hq_6_2 (hts _ (wU_in _ m_626)) dX7_forgetForms_10 ?_
      refine lv_iload_n hx hb dX7_forgetForms_13 rfl (lv_at hl 1 rfl) ?_
      refine lv_bipush (v := (-9)) hx hb dX7_forgetForms_14 (by decide) ?_
      obtain ⟨o2, hf⟩ := ite_ok hf
      refine wk_iast S hK hH (tr_6_2 t0) o2 dX7_forgetForms_16 (fun H locs hH => ?_)
      refine lv_iinc (v := (x1 + (1 : Int32))) (lv' := [(1, .int ((x1 + (1 : Int32)))), (0, .ref (X.2.2.2 a0))]) hx hb dX7_forgetForms_17 hl (k := 1) rfl rfl (by decide) rfl (fun ls hl => ?_)
      refine lv_goto (tgt := 3) hx hb dX7_forgetForms_20 (by decide) ?_
      exact hk3 _ _ hf H locs ls (lv_sub hl [1, 0] rfl) hH
  have BL3 : ∀ (n : Nat) (x1 : Int32) (h : Hp), f_X7_forgetForms_3 a0 n x1 h = some h0 → BK p l e ({ frames := 0, cells := 0, slots := 0, locals := 0 }) s m args below meth c (MQ below (cQv X h0) args s 0 0 (AD X)) X 2 3 [(0, .ref (X.2.2.2 a0)), (1, .int x1)] [] h := by
    intro n
    induction n with
    | zero => intro x1 h hf; cases hf
    | succ n ih => intro x1 h hf; exact B3 _ ih _ _ hf
  intro H locs ls hl hH
  replace hl : lv_has ls 2 [(0, .ref (X.2.2.2 a0))] := hl
  unfold f_X7_forgetForms at hf
  refine lv_bipush (v := 20) hx hb dX7_forgetForms_0 (by decide) ?_
  refine lv_istore_n (lv' := [(1, .int ((20 : Int32))), (0, .ref (X.2.2.2 a0))]) hx hb dX7_forgetForms_2 rfl hl (by decide) rfl (fun ls hl => ?_)
  exact BL3 FU _ _ hf H locs ls (lv_sub hl [1, 0] rfl) hH
set_option maxHeartbeats 4000000 in
set_option maxRecDepth 100000 in
theorem C_X7_in (l : Launch) (X : Cx) (hI : Inj X) (a0 : Int64) (a2 : Int64) (a4 : Int64) (h : Hp) (r0 : Int32) (h0 : Hp) (hf : f_X7_in a0 a2 a4 h = some (r0, h0)) : Mi l X yX7_in cX7_in 6 (some .boolean) 0 0 h [.long a0, .long a2, .long a4] r0 h0 := by
  refine BD_of (own := RX7) hI rfl (by decide) (Nat.le_of_ble_eq_true rfl) ?_
  intro p e s m args below meth c S hr hlk hK hN
  obtain ⟨hx, hb, hml, hown, hts⟩ := id S
  intro H locs ls hl hH
  replace hl : lv_has ls 6 [(0, .long a0), (2, .long a2), (4, .long a4)] := hl
  unfold f_X7_in at hf
  refine lv_lload_n hx hb dX7_in_0 rfl (lv_at hl 0 rfl) ?_
  refine lv_lload_n hx hb dX7_in_1 rfl (lv_at hl 1 rfl) ?_
  refine W.lcmp hx hb dX7_in_2 ?_
  refine lv_if_lt (tgt := 17) hx hb dX7_in_3 (by decide) (fun c1 => ?_) (fun c1 => ?_)
  · replace hf := ite_t c1 hf
    refine lv_iconst (v := 0) hx hb dX7_in_17 (by decide) ?_
    exact wk_zret S hr hlk hK hN hH rfl hf dX7_in_18
  · replace hf := ite_f c1 hf
    refine lv_lload_n hx hb dX7_in_6 rfl (lv_at hl 0 rfl) ?_
    refine lv_lload hx hb dX7_in_7 (lv_at hl 2 rfl) ?_
    refine W.lcmp hx hb dX7_in_9 ?_
    refine lv_if_gt (tgt := 17) hx hb dX7_in_10 (by decide) (fun c2 => ?_) (fun c2 => ?_)
    · replace hf := ite_t c2 hf
      refine lv_iconst (v := 0) hx hb dX7_in_17 (by decide) ?_
      exact wk_zret S hr hlk hK hN hH rfl hf dX7_in_18
    · replace hf := ite_f c2 hf
      refine lv_iconst (v := 1) hx hb dX7_in_13 (by decide) ?_
      refine lv_goto (tgt := 18) hx hb dX7_in_14 (by decide) ?_
      exact wk_zret S hr hlk hK hN hH rfl hf dX7_in_18
set_option maxHeartbeats 4000000 in
set_option maxRecDepth 100000 in
theorem C_X7_has (l : Launch) (X : Cx) (hI : Inj X) (a0 : Int32) (a1 : Int32) (h : Hp) (r0 : Int32) (h0 : Hp) (hf : f_X7_has a0 a1 h = some (r0, h0)) : Mi l X yX7_has cX7_has 2 (some .boolean) 0 0 h [.int a0, .int a1] r0 h0 := by
  refine BD_of (own := RX7) hI rfl (by decide) (Nat.le_of_ble_eq_true rfl) ?_
  intro p e s m args below meth c S hr hlk hK hN
  obtain ⟨hx, hb, hml, hown, hts⟩ := id S
  intro H locs ls hl hH
  replace hl : lv_has ls 2 [(0, .int a0), (1, .int a1)] := hl
  unfold f_X7_has at hf
  refine lv_iload_n hx hb dX7_has_0 rfl (lv_at hl 0 rfl) ?_
  refine lv_iload_n hx hb dX7_has_1 rfl (lv_at hl 1 rfl) ?_
  refine lv_ishr hx hb dX7_has_2 ?_
  refine lv_iconst (v := 1) hx hb dX7_has_3 (by decide) ?_
  refine lv_iand hx hb dX7_has_4 ?_
  refine lv_iconst (v := 1) hx hb dX7_has_5 (by decide) ?_
  refine lv_icmp_ne (tgt := 13) hx hb dX7_has_6 (by decide) (fun c1 => ?_) (fun c1 => ?_)
  · replace hf := ite_f c1 hf
    refine lv_iconst (v := 0) hx hb dX7_has_13 (by decide) ?_
    exact wk_zret S hr hlk hK hN hH rfl hf dX7_has_14
  · replace hf := ite_t c1 hf
    refine lv_iconst (v := 1) hx hb dX7_has_9 (by decide) ?_
    refine lv_goto (tgt := 14) hx hb dX7_has_10 (by decide) ?_
    exact wk_zret S hr hlk hK hN hH rfl hf dX7_has_14
set_option maxHeartbeats 4000000 in
set_option maxRecDepth 100000 in
theorem C_X7_ones (l : Launch) (X : Cx) (hI : Inj X) (a0 : Int32) (h : Hp) (r0 : Int32) (h0 : Hp) (hf : f_X7_ones a0 h = some (r0, h0)) : Mi l X yX7_ones cX7_ones 3 (some .int) 0 0 h [.int a0] r0 h0 := by
  refine BD_of (own := RX7) hI rfl (by decide) (Nat.le_of_ble_eq_true rfl) ?_
  intro p e s m args below meth c S hr hlk hK hN
  obtain ⟨hx, hb, hml, hown, hts⟩ := id S
  have B4 : ∀ (k4 : Int32 → Int32 → Hp → Option (Int32 × Hp)) (hk4 : ∀ (x1 : Int32) (x2 : Int32) (h : Hp), k4 x1 x2 h = some (r0, h0) → BK p l e ({ frames := 0, cells := 0, slots := 0, locals := 0 }) s m args below meth c (MQ below (cQi X r0 h0) args s 0 0 (AD X)) X 3 4 [(0, .int a0), (1, .int x1), (2, .int x2)] [] h) (x1 : Int32) (x2 : Int32) (h : Hp), g_X7_ones_4 a0 k4 x1 x2 h = some (r0, h0) → BK p l e ({ frames := 0, cells := 0, slots := 0, locals := 0 }) s m args below meth c (MQ below (cQi X r0 h0) args s 0 0 (AD X)) X 3 4 [(0, .int a0), (1, .int x1), (2, .int x2)] [] h := by
    intro k4 hk4 x1 x2 h hf H locs ls hl hH
    unfold g_X7_ones_4 at hf
    refine lv_iload_n hx hb dX7_ones_4 rfl (lv_at hl 2 rfl) ?_
    refine lv_iconst (v := 4) hx hb dX7_ones_5 (by decide) ?_
    refine lv_icmp_ge (tgt := 23) hx hb dX7_ones_6 (by decide) (fun c1 => ?_) (fun c1 => ?_)
    · replace hf := ite_t c1 hf
      refine lv_iload_n hx hb dX7_ones_23 rfl (lv_at hl 1 rfl) ?_
      exact wk_iret S hr hlk hK hN hH hf dX7_ones_24
    · replace hf := ite_f c1 hf
      refine lv_iload_n hx hb dX7_ones_9 rfl (lv_at hl 1 rfl) ?_
      refine lv_iload_n hx hb dX7_ones_10 rfl (lv_at hl 0 rfl) ?_
      refine lv_iload_n hx hb dX7_ones_11 rfl (lv_at hl 2 rfl) ?_
      refine lv_ishr hx hb dX7_ones_12 ?_
      refine lv_iconst (v := 1) hx hb dX7_ones_13 (by decide) ?_
      refine lv_iand hx hb dX7_ones_14 ?_
      refine lv_iadd hx hb dX7_ones_15 ?_
      refine lv_istore_n (lv' := [(1, .int ((x1 + ((a0 >>> (x2 &&& (31 : Int32))) &&& (1 : Int32))))), (0, .int a0), (2, .int x2)]) hx hb dX7_ones_16 rfl hl (by decide) rfl (fun ls hl => ?_)
      refine lv_iinc (v := (x2 + (1 : Int32))) (lv' := [(2, .int ((x2 + (1 : Int32)))), (1, .int ((x1 + ((a0 >>> (x2 &&& (31 : Int32))) &&& (1 : Int32))))), (0, .int a0)]) hx hb dX7_ones_17 hl (k := 2) rfl rfl (by decide) rfl (fun ls hl => ?_)
      refine lv_goto (tgt := 4) hx hb dX7_ones_20 (by decide) ?_
      exact hk4 _ _ _ hf H locs ls (lv_sub hl [2, 1, 0] rfl) hH
  have BL4 : ∀ (n : Nat) (x1 : Int32) (x2 : Int32) (h : Hp), f_X7_ones_4 a0 n x1 x2 h = some (r0, h0) → BK p l e ({ frames := 0, cells := 0, slots := 0, locals := 0 }) s m args below meth c (MQ below (cQi X r0 h0) args s 0 0 (AD X)) X 3 4 [(0, .int a0), (1, .int x1), (2, .int x2)] [] h := by
    intro n
    induction n with
    | zero => intro x1 x2 h hf; cases hf
    | succ n ih => intro x1 x2 h hf; exact B4 _ ih _ _ _ hf
  intro H locs ls hl hH
  replace hl : lv_has ls 3 [(0, .int a0)] := hl
  unfold f_X7_ones at hf
  refine lv_iconst (v := 0) hx hb dX7_ones_0 (by decide) ?_
  refine lv_istore_n (lv' := [(1, .int ((0 : Int32))), (0, .int a0)]) hx hb dX7_ones_1 rfl hl (by decide) rfl (fun ls hl => ?_)
  refine lv_iconst (v := 0) hx hb dX7_ones_2 (by decide) ?_
  refine lv_istore_n (lv' := [(2, .int ((0 : Int32))), (1, .int ((0 : Int32))), (0, .int a0)]) hx hb dX7_ones_3 rfl hl (by decide) rfl (fun ls hl => ?_)
  exact BL4 FU _ _ _ hf H locs ls (lv_sub hl [2, 1, 0] rfl) hH
set_option maxHeartbeats 4000000 in
set_option maxRecDepth 100000 in
theorem C_X7_power (l : Launch) (X : Cx) (hI : Inj X) (a0 : Int32) (a1 : Int32) (h : Hp) (r0 : Int32) (h0 : Hp) (hf : f_X7_power a0 a1 h = some (r0, h0)) : Mi l X yX7_power cX7_power 4 (some .int) 0 0 h [.int a0, .int a1] r0 h0 := by
  refine BD_of (own := RX7) hI rfl (by decide) (Nat.le_of_ble_eq_true rfl) ?_
  intro p e s m args below meth c S hr hlk hK hN
  obtain ⟨hx, hb, hml, hown, hts⟩ := id S
  have B4 : ∀ (k4 : Int32 → Int32 → Hp → Option (Int32 × Hp)) (hk4 : ∀ (x2 : Int32) (x3 : Int32) (h : Hp), k4 x2 x3 h = some (r0, h0) → BK p l e ({ frames := 0, cells := 0, slots := 0, locals := 0 }) s m args below meth c (MQ below (cQi X r0 h0) args s 0 0 (AD X)) X 4 4 [(0, .int a0), (1, .int a1), (2, .int x2), (3, .int x3)] [] h) (x2 : Int32) (x3 : Int32) (h : Hp), g_X7_power_4 a0 a1 k4 x2 x3 h = some (r0, h0) → BK p l e ({ frames := 0, cells := 0, slots := 0, locals := 0 }) s m args below meth c (MQ below (cQi X r0 h0) args s 0 0 (AD X)) X 4 4 [(0, .int a0), (1, .int a1), (2, .int x2), (3, .int x3)] [] h := by
    intro k4 hk4 x2 x3 h hf H locs ls hl hH
    unfold g_X7_power_4 at hf
    refine lv_iload_n hx hb dX7_power_4 rfl (lv_at hl 3 rfl) ?_
    refine lv_iload_n hx hb dX7_power_5 rfl (lv_at hl 1 rfl) ?_
    refine lv_icmp_ge (tgt := 19) hx hb dX7_power_6 (by decide) (fun c1 => ?_) (fun c1 => ?_)
    · replace hf := ite_t c1 hf
      refine lv_iload_n hx hb dX7_power_19 rfl (lv_at hl 2 rfl) ?_
      exact wk_iret S hr hlk hK hN hH hf dX7_power_20
    · replace hf := ite_f c1 hf
      refine lv_iload_n hx hb dX7_power_9 rfl (lv_at hl 2 rfl) ?_
      refine lv_iload_n hx hb dX7_power_10 rfl (lv_at hl 0 rfl) ?_
      refine lv_imul hx hb dX7_power_11 ?_
      refine lv_istore_n (lv' := [(2, .int ((x2 * a0))), (0, .int a0), (1, .int a1), (3, .int x3)]) hx hb dX7_power_12 rfl hl (by decide) rfl (fun ls hl => ?_)
      refine lv_iinc (v := (x3 + (1 : Int32))) (lv' := [(3, .int ((x3 + (1 : Int32)))), (2, .int ((x2 * a0))), (0, .int a0), (1, .int a1)]) hx hb dX7_power_13 hl (k := 3) rfl rfl (by decide) rfl (fun ls hl => ?_)
      refine lv_goto (tgt := 4) hx hb dX7_power_16 (by decide) ?_
      exact hk4 _ _ _ hf H locs ls (lv_sub hl [2, 3, 1, 0] rfl) hH
  have BL4 : ∀ (n : Nat) (x2 : Int32) (x3 : Int32) (h : Hp), f_X7_power_4 a0 a1 n x2 x3 h = some (r0, h0) → BK p l e ({ frames := 0, cells := 0, slots := 0, locals := 0 }) s m args below meth c (MQ below (cQi X r0 h0) args s 0 0 (AD X)) X 4 4 [(0, .int a0), (1, .int a1), (2, .int x2), (3, .int x3)] [] h := by
    intro n
    induction n with
    | zero => intro x2 x3 h hf; cases hf
    | succ n ih => intro x2 x3 h hf; exact B4 _ ih _ _ _ hf
  intro H locs ls hl hH
  replace hl : lv_has ls 4 [(0, .int a0), (1, .int a1)] := hl
  unfold f_X7_power at hf
  refine lv_iconst (v := 1) hx hb dX7_power_0 (by decide) ?_
  refine lv_istore_n (lv' := [(2, .int ((1 : Int32))), (0, .int a0), (1, .int a1)]) hx hb dX7_power_1 rfl hl (by decide) rfl (fun ls hl => ?_)
  refine lv_iconst (v := 0) hx hb dX7_power_2 (by decide) ?_
  refine lv_istore_n (lv' := [(3, .int ((0 : Int32))), (2, .int ((1 : Int32))), (0, .int a0), (1, .int a1)]) hx hb dX7_power_3 rfl hl (by decide) rfl (fun ls hl => ?_)
  exact BL4 FU _ _ _ hf H locs ls (lv_sub hl [2, 3, 1, 0] rfl) hH
set_option maxHeartbeats 4000000 in
set_option maxRecDepth 100000 in
theorem C_X7_factorial (l : Launch) (X : Cx) (hI : Inj X) (a0 : Int32) (h : Hp) (r0 : Int32) (h0 : Hp) (hf : f_X7_factorial a0 h = some (r0, h0)) : Mi l X yX7_factorial cX7_factorial 3 (some .int) 0 0 h [.int a0] r0 h0 := by
  refine BD_of (own := RX7) hI rfl (by decide) (Nat.le_of_ble_eq_true rfl) ?_
  intro p e s m args below meth c S hr hlk hK hN
  obtain ⟨hx, hb, hml, hown, hts⟩ := id S
  have B4 : ∀ (k4 : Int32 → Int32 → Hp → Option (Int32 × Hp)) (hk4 : ∀ (x1 : Int32) (x2 : Int32) (h : Hp), k4 x1 x2 h = some (r0, h0) → BK p l e ({ frames := 0, cells := 0, slots := 0, locals := 0 }) s m args below meth c (MQ below (cQi X r0 h0) args s 0 0 (AD X)) X 3 4 [(0, .int a0), (1, .int x1), (2, .int x2)] [] h) (x1 : Int32) (x2 : Int32) (h : Hp), g_X7_factorial_4 a0 k4 x1 x2 h = some (r0, h0) → BK p l e ({ frames := 0, cells := 0, slots := 0, locals := 0 }) s m args below meth c (MQ below (cQi X r0 h0) args s 0 0 (AD X)) X 3 4 [(0, .int a0), (1, .int x1), (2, .int x2)] [] h := by
    intro k4 hk4 x1 x2 h hf H locs ls hl hH
    unfold g_X7_factorial_4 at hf
    refine lv_iload_n hx hb dX7_factorial_4 rfl (lv_at hl 2 rfl) ?_
    refine lv_iload_n hx hb dX7_factorial_5 rfl (lv_at hl 0 rfl) ?_
    refine lv_icmp_gt (tgt := 19) hx hb dX7_factorial_6 (by decide) (fun c1 => ?_) (fun c1 => ?_)
    · replace hf := ite_t c1 hf
      refine lv_iload_n hx hb dX7_factorial_19 rfl (lv_at hl 1 rfl) ?_
      exact wk_iret S hr hlk hK hN hH hf dX7_factorial_20
    · replace hf := ite_f c1 hf
      refine lv_iload_n hx hb dX7_factorial_9 rfl (lv_at hl 1 rfl) ?_
      refine lv_iload_n hx hb dX7_factorial_10 rfl (lv_at hl 2 rfl) ?_
      refine lv_imul hx hb dX7_factorial_11 ?_
      refine lv_istore_n (lv' := [(1, .int ((x1 * x2))), (0, .int a0), (2, .int x2)]) hx hb dX7_factorial_12 rfl hl (by decide) rfl (fun ls hl => ?_)
      refine lv_iinc (v := (x2 + (1 : Int32))) (lv' := [(2, .int ((x2 + (1 : Int32)))), (1, .int ((x1 * x2))), (0, .int a0)]) hx hb dX7_factorial_13 hl (k := 2) rfl rfl (by decide) rfl (fun ls hl => ?_)
      refine lv_goto (tgt := 4) hx hb dX7_factorial_16 (by decide) ?_
      exact hk4 _ _ _ hf H locs ls (lv_sub hl [2, 1, 0] rfl) hH
  have BL4 : ∀ (n : Nat) (x1 : Int32) (x2 : Int32) (h : Hp), f_X7_factorial_4 a0 n x1 x2 h = some (r0, h0) → BK p l e ({ frames := 0, cells := 0, slots := 0, locals := 0 }) s m args below meth c (MQ below (cQi X r0 h0) args s 0 0 (AD X)) X 3 4 [(0, .int a0), (1, .int x1), (2, .int x2)] [] h := by
    intro n
    induction n with
    | zero => intro x1 x2 h hf; cases hf
    | succ n ih => intro x1 x2 h hf; exact B4 _ ih _ _ _ hf
  intro H locs ls hl hH
  replace hl : lv_has ls 3 [(0, .int a0)] := hl
  unfold f_X7_factorial at hf
  refine lv_iconst (v := 1) hx hb dX7_factorial_0 (by decide) ?_
  refine lv_istore_n (lv' := [(1, .int ((1 : Int32))), (0, .int a0)]) hx hb dX7_factorial_1 rfl hl (by decide) rfl (fun ls hl => ?_)
  refine lv_iconst (v := 2) hx hb dX7_factorial_2 (by decide) ?_
  refine lv_istore_n (lv' := [(2, .int ((2 : Int32))), (1, .int ((1 : Int32))), (0, .int a0)]) hx hb dX7_factorial_3 rfl hl (by decide) rfl (fun ls hl => ?_)
  exact BL4 FU _ _ _ hf H locs ls (lv_sub hl [2, 1, 0] rfl) hH
set_option maxHeartbeats 4000000 in
set_option maxRecDepth 100000 in
theorem C_X7_divisor (l : Launch) (X : Cx) (hI : Inj X) (a0 : Int32) (a1 : Int32) (h : Hp) (r0 : Int32) (h0 : Hp) (hf : f_X7_divisor a0 a1 h = some (r0, h0)) : Mi l X yX7_divisor cX7_divisor 5 (some .int) 0 0 h [.int a0, .int a1] r0 h0 := by
  refine BD_of (own := RX7) hI rfl (by decide) (Nat.le_of_ble_eq_true rfl) ?_
  intro p e s m args below meth c S hr hlk hK hN
  obtain ⟨hx, hb, hml, hown, hts⟩ := id S
  have B13 : ∀ (k13 : Int32 → Int32 → Hp → Option (Int32 × Hp)) (hk13 : ∀ (x2 : Int32) (x3 : Int32) (h : Hp), k13 x2 x3 h = some (r0, h0) → BK p l e ({ frames := 0, cells := 0, slots := 0, locals := 0 }) s m args below meth c (MQ below (cQi X r0 h0) args s 0 0 (AD X)) X 5 13 [(2, .int x2), (3, .int x3)] [] h) (x2 : Int32) (x3 : Int32) (h : Hp), g_X7_divisor_13 a0 a1 k13 x2 x3 h = some (r0, h0) → BK p l e ({ frames := 0, cells := 0, slots := 0, locals := 0 }) s m args below meth c (MQ below (cQi X r0 h0) args s 0 0 (AD X)) X 5 13 [(2, .int x2), (3, .int x3)] [] h := by
    intro k13 hk13 x2 x3 h hf H locs ls hl hH
    unfold g_X7_divisor_13 at hf
    refine lv_iload_n hx hb dX7_divisor_13 rfl (lv_at hl 1 rfl) ?_
    refine lv_if_eq (tgt := 30) hx hb dX7_divisor_14 (by decide) (fun c1 => ?_) (fun c1 => ?_)
    · replace hf := ite_t c1 hf
      refine lv_iload_n hx hb dX7_divisor_30 rfl (lv_at hl 0 rfl) ?_
      exact wk_iret S hr hlk hK hN hH hf dX7_divisor_31
    · replace hf := ite_f c1 hf
      refine lv_iload_n hx hb dX7_divisor_17 rfl (lv_at hl 0 rfl) ?_
      refine lv_iload_n hx hb dX7_divisor_18 rfl (lv_at hl 1 rfl) ?_
      obtain ⟨o2, hf⟩ := ite_no hf
      refine lv_irem hx hb dX7_divisor_19 o2 ?_
      refine lv_istore (lv' := [(4, .int ((x2 - x2 / x3 * x3))), (2, .int x2), (3, .int x3)]) hx hb dX7_divisor_20 hl (by decide) rfl (fun ls hl => ?_)
      refine lv_iload_n hx hb dX7_divisor_22 rfl (lv_at hl 2 rfl) ?_
      refine lv_istore_n (lv' := [(2, .int x3), (4, .int ((x2 - x2 / x3 * x3))), (3, .int x3)]) hx hb dX7_divisor_23 rfl hl (by decide) rfl (fun ls hl => ?_)
      refine lv_iload hx hb dX7_divisor_24 (lv_at hl 1 rfl) ?_
      refine lv_istore_n (lv' := [(3, .int ((x2 - x2 / x3 * x3))), (2, .int x3), (4, .int ((x2 - x2 / x3 * x3)))]) hx hb dX7_divisor_26 rfl hl (by decide) rfl (fun ls hl => ?_)
      refine lv_goto (tgt := 13) hx hb dX7_divisor_27 (by decide) ?_
      exact hk13 _ _ _ hf H locs ls (lv_sub hl [1, 0] rfl) hH
  have BL13 : ∀ (n : Nat) (x2 : Int32) (x3 : Int32) (h : Hp), f_X7_divisor_13 a0 a1 n x2 x3 h = some (r0, h0) → BK p l e ({ frames := 0, cells := 0, slots := 0, locals := 0 }) s m args below meth c (MQ below (cQi X r0 h0) args s 0 0 (AD X)) X 5 13 [(2, .int x2), (3, .int x3)] [] h := by
    intro n
    induction n with
    | zero => intro x2 x3 h hf; cases hf
    | succ n ih => intro x2 x3 h hf; exact B13 _ ih _ _ _ hf
  have B10 : ∀ (z0 : Int32) (h : Hp), g_X7_divisor_10 a0 a1 z0 h = some (r0, h0) → BK p l e ({ frames := 0, cells := 0, slots := 0, locals := 0 }) s m args below meth c (MQ below (cQi X r0 h0) args s 0 0 (AD X)) X 5 10 [(1, .int a1)] [.int z0] h := by
    intro z0 h hf H locs ls hl hH
    unfold g_X7_divisor_10 at hf
    refine lv_istore_n (lv' := [(2, .int z0), (1, .int a1)]) hx hb dX7_divisor_10 rfl hl (by decide) rfl (fun ls hl => ?_)
    refine lv_iload_n hx hb dX7_divisor_11 rfl (lv_at hl 1 rfl) ?_
    refine lv_istore_n (lv' := [(3, .int a1), (2, .int z0), (1, .int a1)]) hx hb dX7_divisor_12 rfl hl (by decide) rfl (fun ls hl => ?_)
    exact BL13 FU _ _ _ hf H locs ls (lv_sub hl [1, 0] rfl) hH
  intro H locs ls hl hH
  replace hl : lv_has ls 5 [(0, .int a0), (1, .int a1)] := hl
  unfold f_X7_divisor at hf
  refine lv_iload_n hx hb dX7_divisor_0 rfl (lv_at hl 0 rfl) ?_
  refine lv_if_ge (tgt := 9) hx hb dX7_divisor_1 (by decide) (fun c3 => ?_) (fun c3 => ?_)
  · replace hf := ite_t c3 hf
    refine lv_iload_n hx hb dX7_divisor_9 rfl (lv_at hl 0 rfl) ?_
    exact B10 _ _ hf H locs ls (lv_sub hl [1] rfl) hH
  · replace hf := ite_f c3 hf
    refine lv_iload_n hx hb dX7_divisor_4 rfl (lv_at hl 0 rfl) ?_
    refine lv_ineg hx hb dX7_divisor_5 ?_
    refine lv_goto (tgt := 10) hx hb dX7_divisor_6 (by decide) ?_
    exact B10 _ _ hf H locs ls (lv_sub hl [1] rfl) hH
set_option maxHeartbeats 4000000 in
set_option maxRecDepth 100000 in
theorem C_X7_fraction (l : Launch) (X : Cx) (hI : Inj X) (a0 : Int32) (a1 : Int32) (a2 : Int32) (h : Hp) (r0 : Int32) (h0 : Hp) (hf : f_X7_fraction a0 a1 a2 h = some (r0, h0)) : Mi l X yX7_fraction cX7_fraction 4 (some .int) 1 24 h [.int a0, .int a1, .int a2] r0 h0 := by
  refine BD_of (own := RX7) hI rfl (by decide) (Nat.le_of_ble_eq_true rfl) ?_
  intro p e s m args below meth c S hr hlk hK hN
  obtain ⟨hx, hb, hml, hown, hts⟩ := id S
  intro H locs ls hl hH
  replace hl : lv_has ls 4 [(0, .int a0), (1, .int a1), (2, .int a2)] := hl
  unfold f_X7_fraction at hf
  refine lv_iload_n hx hb dX7_fraction_0 rfl (lv_at hl 0 rfl) ?_
  refine lv_iload_n hx hb dX7_fraction_1 rfl (lv_at hl 1 rfl) ?_
  obtain ⟨r3, h2, hq1, hf⟩ := bnd_ok hf
  refine wk_callSi (As := [.int a0, .int a1]) (rest := []) S hK hN hH (C_X7_divisor l X hI a0 a1 _ _ _ hq1) (va_cwS 2 hts (gS wU_in m_939 m_940 m_41 m_941) rfl rfl rfl hdS_X7_divisor ⟨Nat.le_of_ble_eq_true rfl, Nat.le_of_ble_eq_true rfl⟩) hl.1 rfl rfl (Nat.le_of_ble_eq_true rfl) dX7_fraction_2 ⟨Nat.zero_le _, Nat.zero_le _⟩ (fun H locs hH => ?_)
  refine lv_istore_n (lv' := [(3, .int r3), (0, .int a0), (1, .int a1), (2, .int a2)]) hx hb dX7_fraction_5 rfl hl (by decide) rfl (fun ls hl => ?_)
  refine lv_iload_n hx hb dX7_fraction_6 rfl (lv_at hl 3 rfl) ?_
  refine lv_if_eq (tgt := 16) hx hb dX7_fraction_7 (by decide) (fun c4 => ?_) (fun c4 => ?_)
  · replace hf := ite_t c4 hf
    refine lv_iload_n hx hb dX7_fraction_16 rfl (lv_at hl 2 rfl) ?_
    refine lv_iload_n hx hb dX7_fraction_17 rfl (lv_at hl 0 rfl) ?_
    obtain ⟨o5, hf⟩ := ite_no hf
    refine lv_idiv hx hb dX7_fraction_18 o5 ?_
    exact wk_iret S hr hlk hK hN hH hf dX7_fraction_19
  · replace hf := ite_f c4 hf
    refine lv_iload_n hx hb dX7_fraction_10 rfl (lv_at hl 1 rfl) ?_
    refine lv_iload_n hx hb dX7_fraction_11 rfl (lv_at hl 0 rfl) ?_
    obtain ⟨o6, hf⟩ := ite_no hf
    refine lv_idiv hx hb dX7_fraction_12 o6 ?_
    refine lv_goto (tgt := 19) hx hb dX7_fraction_13 (by decide) ?_
    exact wk_iret S hr hlk hK hN hH hf dX7_fraction_19
set_option maxHeartbeats 4000000 in
set_option maxRecDepth 100000 in
theorem C_X7_size (l : Launch) (X : Cx) (hI : Inj X) (a0 : Int32) (h : Hp) (r0 : Int32) (h0 : Hp) (hf : f_X7_size a0 h = some (r0, h0)) : Mi l X yX7_size cX7_size 3 (some .int) 0 0 h [.int a0] r0 h0 := by
  refine BD_of (own := RX7) hI rfl (by decide) (Nat.le_of_ble_eq_true rfl) ?_
  intro p e s m args below meth c S hr hlk hK hN
  obtain ⟨hx, hb, hml, hown, hts⟩ := id S
  have B4 : ∀ (k4 : Int32 → Int32 → Hp → Option (Int32 × Hp)) (hk4 : ∀ (x1 : Int32) (x2 : Int32) (h : Hp), k4 x1 x2 h = some (r0, h0) → BK p l e ({ frames := 0, cells := 0, slots := 0, locals := 0 }) s m args below meth c (MQ below (cQi X r0 h0) args s 0 0 (AD X)) X 3 4 [(1, .int x1), (2, .int x2)] [] h) (x1 : Int32) (x2 : Int32) (h : Hp), g_X7_size_4 a0 k4 x1 x2 h = some (r0, h0) → BK p l e ({ frames := 0, cells := 0, slots := 0, locals := 0 }) s m args below meth c (MQ below (cQi X r0 h0) args s 0 0 (AD X)) X 3 4 [(1, .int x1), (2, .int x2)] [] h := by
    intro k4 hk4 x1 x2 h hf H locs ls hl hH
    unfold g_X7_size_4 at hf
    refine lv_iload_n hx hb dX7_size_4 rfl (lv_at hl 1 rfl) ?_
    refine lv_if_le (tgt := 19) hx hb dX7_size_5 (by decide) (fun c1 => ?_) (fun c1 => ?_)
    · replace hf := ite_t c1 hf
      refine lv_iload_n hx hb dX7_size_19 rfl (lv_at hl 0 rfl) ?_
      exact wk_iret S hr hlk hK hN hH hf dX7_size_20
    · replace hf := ite_f c1 hf
      refine lv_iinc (v := (x1 + (1 : Int32))) (lv' := [(1, .int ((x1 + (1 : Int32)))), (2, .int x2)]) hx hb dX7_size_8 hl (k := 0) rfl rfl (by decide) rfl (fun ls hl => ?_)
      refine lv_iload_n hx hb dX7_size_11 rfl (lv_at hl 1 rfl) ?_
      refine lv_bipush (v := 10) hx hb dX7_size_12 (by decide) ?_
      refine lv_idiv hx hb dX7_size_14 (by decide) ?_
      refine lv_istore_n (lv' := [(2, .int ((x2 / (10 : Int32)))), (1, .int ((x1 + (1 : Int32))))]) hx hb dX7_size_15 rfl hl (by decide) rfl (fun ls hl => ?_)
      refine lv_goto (tgt := 4) hx hb dX7_size_16 (by decide) ?_
      exact hk4 _ _ _ hf H locs ls (lv_sub hl [1, 0] rfl) hH
  have BL4 : ∀ (n : Nat) (x1 : Int32) (x2 : Int32) (h : Hp), f_X7_size_4 a0 n x1 x2 h = some (r0, h0) → BK p l e ({ frames := 0, cells := 0, slots := 0, locals := 0 }) s m args below meth c (MQ below (cQi X r0 h0) args s 0 0 (AD X)) X 3 4 [(1, .int x1), (2, .int x2)] [] h := by
    intro n
    induction n with
    | zero => intro x1 x2 h hf; cases hf
    | succ n ih => intro x1 x2 h hf; exact B4 _ ih _ _ _ hf
  intro H locs ls hl hH
  replace hl : lv_has ls 3 [(0, .int a0)] := hl
  unfold f_X7_size at hf
  refine lv_iconst (v := 0) hx hb dX7_size_0 (by decide) ?_
  refine lv_istore_n (lv' := [(1, .int ((0 : Int32))), (0, .int a0)]) hx hb dX7_size_1 rfl hl (by decide) rfl (fun ls hl => ?_)
  refine lv_iload_n hx hb dX7_size_2 rfl (lv_at hl 1 rfl) ?_
  refine lv_istore_n (lv' := [(2, .int a0), (1, .int ((0 : Int32))), (0, .int a0)]) hx hb dX7_size_3 rfl hl (by decide) rfl (fun ls hl => ?_)
  exact BL4 FU _ _ _ hf H locs ls (lv_sub hl [1, 0] rfl) hH
set_option maxHeartbeats 4000000 in
set_option maxRecDepth 100000 in
theorem C_X7_letterAt (l : Launch) (X : Cx) (hI : Inj X) (a0 : Int32) (a1 : Int32) (h : Hp) (r0 : Int32) (h0 : Hp) (hf : f_X7_letterAt a0 a1 h = some (r0, h0)) : Mi l X yX7_letterAt cX7_letterAt 3 (some .int) 1 23 h [.int a0, .int a1] r0 h0 := by
  refine BD_of (own := RX7) hI rfl (by decide) (Nat.le_of_ble_eq_true rfl) ?_
  intro p e s m args below meth c S hr hlk hK hN
  obtain ⟨hx, hb, hml, hown, hts⟩ := id S
  intro H locs ls hl hH
  replace hl : lv_has ls 3 [(0, .int a0), (1, .int a1)] := hl
  unfold f_X7_letterAt at hf
  refine lv_iload_n hx hb dX7_letterAt_0 rfl (lv_at hl 0 rfl) ?_
  obtain ⟨r3, h2, hq1, hf⟩ := bnd_ok hf
  refine wk_callSi (As := [.int a0]) (rest := []) S hK hN hH (C_X7_size l X hI a0 _ _ _ hq1) (va_cwS 1 hts (gS wU_in m_784 m_785 m_41 m_786) rfl rfl rfl hdS_X7_size ⟨Nat.le_of_ble_eq_true rfl, Nat.le_of_ble_eq_true rfl⟩) hl.1 rfl rfl (Nat.le_of_ble_eq_true rfl) dX7_letterAt_1 ⟨Nat.zero_le _, Nat.zero_le _⟩ (fun H locs hH => ?_)
  refine lv_istore_n (lv' := [(2, .int r3), (0, .int a0), (1, .int a1)]) hx hb dX7_letterAt_4 rfl hl (by decide) rfl (fun ls hl => ?_)
  refine lv_iload_n hx hb dX7_letterAt_5 rfl (lv_at hl 2 rfl) ?_
  refine lv_iload_n hx hb dX7_letterAt_6 rfl (lv_at hl 0 rfl) ?_
  refine lv_icmp_ge (tgt := 28) hx hb dX7_letterAt_7 (by decide) (fun c4 => ?_) (fun c4 => ?_)
  · replace hf := ite_t c4 hf
    refine lv_bipush (v := (-9)) hx hb dX7_letterAt_28 (by decide) ?_
    exact wk_iret S hr hlk hK hN hH hf dX7_letterAt_30
  · replace hf := ite_f c4 hf
    refine lv_iload_n hx hb dX7_letterAt_10 rfl (lv_at hl 1 rfl) ?_
    refine lv_bipush (v := 10) hx hb dX7_letterAt_11 (by decide) ?_
    refine lv_iload_n hx hb dX7_letterAt_13 rfl (lv_at hl 0 rfl) ?_
    refine lv_iconst (v := 1) hx hb dX7_letterAt_14 (by decide) ?_
    refine lv_isub hx hb dX7_letterAt_15 ?_
    refine lv_iload_n hx hb dX7_letterAt_16 rfl (lv_at hl 2 rfl) ?_
    refine lv_isub hx hb dX7_letterAt_17 ?_
    obtain ⟨r7, h6, hq5, hf⟩ := bnd_ok hf
    refine wk_callSi (As := [.int ((10 : Int32)), .int (((r3 - (1 : Int32)) - a1))]) (rest := [.int a0]) S hK hN hH (C_X7_power l X hI (10 : Int32) ((r3 - (1 : Int32)) - a1) _ _ _ hq5) (va_cwS 2 hts (gS wU_in m_787 m_788 m_41 m_789) rfl rfl rfl hdS_X7_power ⟨Nat.le_of_ble_eq_true rfl, Nat.le_of_ble_eq_true rfl⟩) hl.1 rfl rfl (Nat.le_of_ble_eq_true rfl) dX7_letterAt_18 ⟨Nat.zero_le _, Nat.zero_le _⟩ (fun H locs hH => ?_)
    obtain ⟨o8, hf⟩ := ite_no hf
    refine lv_idiv hx hb dX7_letterAt_21 o8 ?_
    refine lv_bipush (v := 10) hx hb dX7_letterAt_22 (by decide) ?_
    refine lv_irem hx hb dX7_letterAt_24 (by decide) ?_
    refine lv_goto (tgt := 30) hx hb dX7_letterAt_25 (by decide) ?_
    exact wk_iret S hr hlk hK hN hH hf dX7_letterAt_30
set_option maxHeartbeats 4000000 in
set_option maxRecDepth 100000 in
theorem C_X7_isWord (l : Launch) (X : Cx) (hI : Inj X) (a0 : Int32) (h : Hp) (r0 : Int32) (h0 : Hp) (hf : f_X7_isWord a0 h = some (r0, h0)) : Mi l X yX7_isWord cX7_isWord 3 (some .boolean) 1 25 h [.int a0] r0 h0 := by
  refine BD_of (own := RX7) hI rfl (by decide) (Nat.le_of_ble_eq_true rfl) ?_
  intro p e s m args below meth c S hr hlk hK hN
  obtain ⟨hx, hb, hml, hown, hts⟩ := id S
  have B46 : ∀ (k18 : Int32 → Int32 → Hp → Option (Int32 × Hp)) (hk18 : ∀ (x1 : Int32) (x2 : Int32) (h : Hp), k18 x1 x2 h = some (r0, h0) → BK p l e ({ frames := 1, cells := 0, slots := 0, locals := 25 }) s m args below meth c (MQ below (cQi X r0 h0) args s 0 0 (AD X)) X 3 18 [(1, .int x1), (2, .int x2)] [] h) (x2 : Int32) (z0 : Int32) (h : Hp), g_X7_isWord_46 a0 k18 x2 z0 h = some (r0, h0) → BK p l e ({ frames := 1, cells := 0, slots := 0, locals := 25 }) s m args below meth c (MQ below (cQi X r0 h0) args s 0 0 (AD X)) X 3 46 [(2, .int x2)] [.int z0] h := by
    intro k18 hk18 x2 z0 h hf H locs ls hl hH
    unfold g_X7_isWord_46 at hf
    refine lv_istore_n (lv' := [(1, .int z0), (2, .int x2)]) hx hb dX7_isWord_46 rfl hl (by decide) rfl (fun ls hl => ?_)
    refine lv_iload_n hx hb dX7_isWord_47 rfl (lv_at hl 1 rfl) ?_
    refine lv_bipush (v := 10) hx hb dX7_isWord_48 (by decide) ?_
    refine lv_idiv hx hb dX7_isWord_50 (by decide) ?_
    refine lv_istore_n (lv' := [(2, .int ((x2 / (10 : Int32)))), (1, .int z0)]) hx hb dX7_isWord_51 rfl hl (by decide) rfl (fun ls hl => ?_)
    refine lv_goto (tgt := 18) hx hb dX7_isWord_52 (by decide) ?_
    exact hk18 _ _ _ hf H locs ls (lv_sub hl [1, 0] rfl) hH
  have B45 : ∀ (k18 : Int32 → Int32 → Hp → Option (Int32 × Hp)) (hk18 : ∀ (x1 : Int32) (x2 : Int32) (h : Hp), k18 x1 x2 h = some (r0, h0) → BK p l e ({ frames := 1, cells := 0, slots := 0, locals := 25 }) s m args below meth c (MQ below (cQi X r0 h0) args s 0 0 (AD X)) X 3 18 [(1, .int x1), (2, .int x2)] [] h) (x2 : Int32) (h : Hp), g_X7_isWord_45 a0 k18 x2 h = some (r0, h0) → BK p l e ({ frames := 1, cells := 0, slots := 0, locals := 25 }) s m args below meth c (MQ below (cQi X r0 h0) args s 0 0 (AD X)) X 3 45 [(2, .int x2)] [] h := by
    intro k18 hk18 x2 h hf H locs ls hl hH
    unfold g_X7_isWord_45 at hf
    refine lv_iconst (v := 0) hx hb dX7_isWord_45 (by decide) ?_
    exact B46 k18 hk18 _ _ _ hf H locs ls (lv_sub hl [0] rfl) hH
  have B18 : ∀ (k18 : Int32 → Int32 → Hp → Option (Int32 × Hp)) (hk18 : ∀ (x1 : Int32) (x2 : Int32) (h : Hp), k18 x1 x2 h = some (r0, h0) → BK p l e ({ frames := 1, cells := 0, slots := 0, locals := 25 }) s m args below meth c (MQ below (cQi X r0 h0) args s 0 0 (AD X)) X 3 18 [(1, .int x1), (2, .int x2)] [] h) (x1 : Int32) (x2 : Int32) (h : Hp), g_X7_isWord_18 a0 k18 x1 x2 h = some (r0, h0) → BK p l e ({ frames := 1, cells := 0, slots := 0, locals := 25 }) s m args below meth c (MQ below (cQi X r0 h0) args s 0 0 (AD X)) X 3 18 [(1, .int x1), (2, .int x2)] [] h := by
    intro k18 hk18 x1 x2 h hf H locs ls hl hH
    unfold g_X7_isWord_18 at hf
    refine lv_iload_n hx hb dX7_isWord_18 rfl (lv_at hl 1 rfl) ?_
    refine lv_if_le (tgt := 55) hx hb dX7_isWord_19 (by decide) (fun c1 => ?_) (fun c1 => ?_)
    · replace hf := ite_t c1 hf
      refine lv_iload_n hx hb dX7_isWord_55 rfl (lv_at hl 0 rfl) ?_
      obtain ⟨o2, hf⟩ := ite_ok hf
      exact wk_zret S hr hlk hK hN hH (okZ_nar o2) hf dX7_isWord_56
    · replace hf := ite_f c1 hf
      refine lv_iload_n hx hb dX7_isWord_22 rfl (lv_at hl 0 rfl) ?_
      refine lv_if_eq (tgt := 45) hx hb dX7_isWord_23 (by decide) (fun c3 => ?_) (fun c3 => ?_)
      · replace hf := ite_t c3 hf
        exact B45 k18 hk18 _ _ hf H locs ls (lv_sub hl [1] rfl) hH
      · replace hf := ite_f c3 hf
        refine lv_iload_n hx hb dX7_isWord_26 rfl (lv_at hl 1 rfl) ?_
        refine lv_bipush (v := 10) hx hb dX7_isWord_27 (by decide) ?_
        refine lv_irem hx hb dX7_isWord_29 (by decide) ?_
        refine lv_i2l hx hb dX7_isWord_30 rfl ?_
        refine lv_lconst (v := 1) hx hb dX7_isWord_31 (by decide) ?_
        refine lv_ldc2 hx hb hown (hts _ (wU_in _ m_855)) dX7_isWord_32 ?_
        obtain ⟨r6, h5, hq4, hf⟩ := bnd_ok hf
        refine wk_callSi (As := [.long (((x2 - x2 / (10 : Int32) * (10 : Int32))).toInt64), .long ((1 : Int64)), .long ((5 : Int64))]) (rest := []) S hK hN hH (C_X7_in l X hI (((x2 - x2 / (10 : Int32) * (10 : Int32))).toInt64) (1 : Int64) (5 : Int64) _ _ _ hq4) (va_cwS 3 hts (gS wU_in m_720 m_721 m_41 m_722) rfl rfl rfl hdS_X7_in ⟨Nat.le_of_ble_eq_true rfl, Nat.le_of_ble_eq_true rfl⟩) hl.1 rfl rfl (Nat.le_of_ble_eq_true rfl) dX7_isWord_35 ⟨Nat.zero_le _, Nat.zero_le _⟩ (fun H locs hH => ?_)
        refine lv_if_eq (tgt := 45) hx hb dX7_isWord_38 (by decide) (fun c7 => ?_) (fun c7 => ?_)
        · replace hf := ite_t c7 hf
          exact B45 k18 hk18 _ _ hf H locs ls (lv_sub hl [1] rfl) hH
        · replace hf := ite_f c7 hf
          refine lv_iconst (v := 1) hx hb dX7_isWord_41 (by decide) ?_
          refine lv_goto (tgt := 46) hx hb dX7_isWord_42 (by decide) ?_
          exact B46 k18 hk18 _ _ _ hf H locs ls (lv_sub hl [1] rfl) hH
  have BL18 : ∀ (n : Nat) (x1 : Int32) (x2 : Int32) (h : Hp), f_X7_isWord_18 a0 n x1 x2 h = some (r0, h0) → BK p l e ({ frames := 1, cells := 0, slots := 0, locals := 25 }) s m args below meth c (MQ below (cQi X r0 h0) args s 0 0 (AD X)) X 3 18 [(1, .int x1), (2, .int x2)] [] h := by
    intro n
    induction n with
    | zero => intro x1 x2 h hf; cases hf
    | succ n ih => intro x1 x2 h hf; exact B18 _ ih _ _ _ hf
  intro H locs ls hl hH
  replace hl : lv_has ls 3 [(0, .int a0)] := hl
  unfold f_X7_isWord at hf
  refine lv_iload_n hx hb dX7_isWord_0 rfl (lv_at hl 0 rfl) ?_
  refine lv_i2l hx hb dX7_isWord_1 rfl ?_
  refine lv_lconst (v := 0) hx hb dX7_isWord_2 (by decide) ?_
  refine lv_ldc2 hx hb hown (hts _ (wU_in _ m_854)) dX7_isWord_3 ?_
  obtain ⟨r10, h9, hq8, hf⟩ := bnd_ok hf
  refine wk_callSi (As := [.long ((a0).toInt64), .long ((0 : Int64)), .long ((555555 : Int64))]) (rest := []) S hK hN hH (C_X7_in l X hI ((a0).toInt64) (0 : Int64) (555555 : Int64) _ _ _ hq8) (va_cwS 3 hts (gS wU_in m_720 m_721 m_41 m_722) rfl rfl rfl hdS_X7_in ⟨Nat.le_of_ble_eq_true rfl, Nat.le_of_ble_eq_true rfl⟩) hl.1 rfl rfl (Nat.le_of_ble_eq_true rfl) dX7_isWord_6 ⟨Nat.zero_le _, Nat.zero_le _⟩ (fun H locs hH => ?_)
  refine lv_if_ne (tgt := 14) hx hb dX7_isWord_9 (by decide) (fun c11 => ?_) (fun c11 => ?_)
  · replace hf := ite_f c11 hf
    refine lv_iconst (v := 1) hx hb dX7_isWord_14 (by decide) ?_
    refine lv_istore_n (lv' := [(1, .int ((1 : Int32))), (0, .int a0)]) hx hb dX7_isWord_15 rfl hl (by decide) rfl (fun ls hl => ?_)
    refine lv_iload_n hx hb dX7_isWord_16 rfl (lv_at hl 1 rfl) ?_
    refine lv_istore_n (lv' := [(2, .int a0), (1, .int ((1 : Int32))), (0, .int a0)]) hx hb dX7_isWord_17 rfl hl (by decide) rfl (fun ls hl => ?_)
    exact BL18 FU _ _ _ hf H locs ls (lv_sub hl [1, 0] rfl) hH
  · replace hf := ite_t c11 hf
    refine lv_iconst (v := 0) hx hb dX7_isWord_12 (by decide) ?_
    exact wk_zret S hr hlk hK hN hH rfl hf dX7_isWord_13
set_option maxHeartbeats 4000000 in
set_option maxRecDepth 100000 in
theorem C_X7_fits (l : Launch) (X : Cx) (hI : Inj X) (a0 : Int32) (a1 : Int32) (h : Hp) (r0 : Int32) (h0 : Hp) (hf : f_X7_fits a0 a1 h = some (r0, h0)) : Mi l X yX7_fits cX7_fits 2 (some .boolean) 0 0 h [.int a0, .int a1] r0 h0 := by
  refine BD_of (own := RX7) hI rfl (by decide) (Nat.le_of_ble_eq_true rfl) ?_
  intro p e s m args below meth c S hr hlk hK hN
  obtain ⟨hx, hb, hml, hown, hts⟩ := id S
  intro H locs ls hl hH
  replace hl : lv_has ls 2 [(0, .int a0), (1, .int a1)] := hl
  unfold f_X7_fits at hf
  refine lv_iload_n hx hb dX7_fits_0 rfl (lv_at hl 0 rfl) ?_
  refine lv_bipush (v := 6) hx hb dX7_fits_1 (by decide) ?_
  refine lv_icmp_ne (tgt := 8) hx hb dX7_fits_3 (by decide) (fun c1 => ?_) (fun c1 => ?_)
  · replace hf := ite_f c1 hf
    refine lv_iload_n hx hb dX7_fits_8 rfl (lv_at hl 0 rfl) ?_
    refine lv_bipush (v := 7) hx hb dX7_fits_9 (by decide) ?_
    refine lv_icmp_ne (tgt := 26) hx hb dX7_fits_11 (by decide) (fun c2 => ?_) (fun c2 => ?_)
    · replace hf := ite_f c2 hf
      refine lv_iload_n hx hb dX7_fits_26 rfl (lv_at hl 1 rfl) ?_
      refine lv_iload_n hx hb dX7_fits_27 rfl (lv_at hl 0 rfl) ?_
      refine lv_icmp_ne (tgt := 35) hx hb dX7_fits_28 (by decide) (fun c3 => ?_) (fun c3 => ?_)
      · replace hf := ite_f c3 hf
        refine lv_iconst (v := 0) hx hb dX7_fits_35 (by decide) ?_
        exact wk_zret S hr hlk hK hN hH rfl hf dX7_fits_36
      · replace hf := ite_t c3 hf
        refine lv_iconst (v := 1) hx hb dX7_fits_31 (by decide) ?_
        refine lv_goto (tgt := 36) hx hb dX7_fits_32 (by decide) ?_
        exact wk_zret S hr hlk hK hN hH rfl hf dX7_fits_36
    · replace hf := ite_t c2 hf
      refine lv_iload_n hx hb dX7_fits_14 rfl (lv_at hl 1 rfl) ?_
      refine lv_if_ne (tgt := 22) hx hb dX7_fits_15 (by decide) (fun c4 => ?_) (fun c4 => ?_)
      · replace hf := ite_f c4 hf
        refine lv_iconst (v := 0) hx hb dX7_fits_22 (by decide) ?_
        refine lv_goto (tgt := 36) hx hb dX7_fits_23 (by decide) ?_
        exact wk_zret S hr hlk hK hN hH rfl hf dX7_fits_36
      · replace hf := ite_t c4 hf
        refine lv_iconst (v := 1) hx hb dX7_fits_18 (by decide) ?_
        refine lv_goto (tgt := 36) hx hb dX7_fits_19 (by decide) ?_
        exact wk_zret S hr hlk hK hN hH rfl hf dX7_fits_36
  · replace hf := ite_t c1 hf
    refine lv_iconst (v := 1) hx hb dX7_fits_6 (by decide) ?_
    exact wk_zret S hr hlk hK hN hH rfl hf dX7_fits_7
set_option maxHeartbeats 4000000 in
set_option maxRecDepth 100000 in
theorem C_X7_changed (l : Launch) (X : Cx) (hI : Inj X) {a0 : Nat} (t0 : tY a0 = 100) (a1 : Int32) (a2 : Int32) (h : Hp) (r0 : Int32) (h0 : Hp) (hf : f_X7_changed a0 a1 a2 h = some (r0, h0)) : Mi l X yX7_changed cX7_changed 11 (some .int) 1 21 h [.ref (X.2.2.2 a0), .int a1, .int a2] r0 h0 := by
  refine BD_of (own := RX7) hI rfl (by decide) (Nat.le_of_ble_eq_true rfl) ?_
  intro p e s m args below meth c S hr hlk hK hN
  obtain ⟨hx, hb, hml, hown, hts⟩ := id S
  have B117 : ∀ (k18 : Int32 → Int32 → Int32 → Int32 → Int32 → Hp → Option (Int32 × Hp)) (hk18 : ∀ (x3 : Int32) (x4 : Int32) (x5 : Int32) (x6 : Int32) (x7 : Int32) (h : Hp), k18 x3 x4 x5 x6 x7 h = some (r0, h0) → BK p l e ({ frames := 1, cells := 0, slots := 0, locals := 21 }) s m args below meth c (MQ below (cQi X r0 h0) args s 0 0 (AD X)) X 11 18 [(0, .ref (X.2.2.2 a0)), (3, .int x3), (4, .int x4), (5, .int x5), (6, .int x6), (7, .int x7)] [] h) (x3 : Int32) (x4 : Int32) (x7 : Int32) (x8 : Int32) (z0 : Int32) (z1 : Int32) (h : Hp), g_X7_changed_117 a0 a1 a2 k18 x3 x4 x7 x8 z0 z1 h = some (r0, h0) → BK p l e ({ frames := 1, cells := 0, slots := 0, locals := 21 }) s m args below meth c (MQ below (cQi X r0 h0) args s 0 0 (AD X)) X 11 117 [(0, .ref (X.2.2.2 a0)), (3, .int x3), (4, .int x4), (7, .int x7), (8, .int x8)] [.int z1, .int z0] h := by
    intro k18 hk18 x3 x4 x7 x8 z0 z1 h hf H locs ls hl hH
    unfold g_X7_changed_117 at hf
    refine lv_imul hx hb dX7_changed_117 ?_
    refine lv_istore (lv' := [(5, .int ((z0 * z1))), (0, .ref (X.2.2.2 a0)), (3, .int x3), (4, .int x4), (7, .int x7), (8, .int x8)]) hx hb dX7_changed_118 hl (by decide) rfl (fun ls hl => ?_)
    refine lv_iload hx hb dX7_changed_120 (lv_at hl 5 rfl) ?_
    refine lv_istore (lv' := [(6, .int x8), (5, .int ((z0 * z1))), (0, .ref (X.2.2.2 a0)), (3, .int x3), (4, .int x4), (7, .int x7), (8, .int x8)]) hx hb dX7_changed_122 hl (by decide) rfl (fun ls hl => ?_)
    refine lv_iload hx hb dX7_changed_124 (lv_at hl 5 rfl) ?_
    refine lv_bipush (v := 10) hx hb dX7_changed_126 (by decide) ?_
    refine lv_idiv hx hb dX7_changed_128 (by decide) ?_
    refine lv_istore (lv' := [(7, .int ((x7 / (10 : Int32)))), (6, .int x8), (5, .int ((z0 * z1))), (0, .ref (X.2.2.2 a0)), (3, .int x3), (4, .int x4), (8, .int x8)]) hx hb dX7_changed_129 hl (by decide) rfl (fun ls hl => ?_)
    refine lv_goto (tgt := 18) hx hb dX7_changed_131 (by decide) ?_
    exact hk18 _ _ _ _ _ _ hf H locs ls (lv_sub hl [3, 4, 5, 2, 1, 0] rfl) hH
  have B92 : ∀ (k18 : Int32 → Int32 → Int32 → Int32 → Int32 → Hp → Option (Int32 × Hp)) (hk18 : ∀ (x3 : Int32) (x4 : Int32) (x5 : Int32) (x6 : Int32) (x7 : Int32) (h : Hp), k18 x3 x4 x5 x6 x7 h = some (r0, h0) → BK p l e ({ frames := 1, cells := 0, slots := 0, locals := 21 }) s m args below meth c (MQ below (cQi X r0 h0) args s 0 0 (AD X)) X 11 18 [(0, .ref (X.2.2.2 a0)), (3, .int x3), (4, .int x4), (5, .int x5), (6, .int x6), (7, .int x7)] [] h) (x3 : Int32) (x4 : Int32) (x5 : Int32) (x7 : Int32) (x8 : Int32) (z0 : Int32) (h : Hp), g_X7_changed_92 a0 a1 a2 k18 x3 x4 x5 x7 x8 z0 h = some (r0, h0) → BK p l e ({ frames := 1, cells := 0, slots := 0, locals := 21 }) s m args below meth c (MQ below (cQi X r0 h0) args s 0 0 (AD X)) X 11 92 [(0, .ref (X.2.2.2 a0)), (3, .int x3), (4, .int x4), (5, .int x5), (7, .int x7), (8, .int x8)] [.int z0] h := by
    intro k18 hk18 x3 x4 x5 x7 x8 z0 h hf H locs ls hl hH
    unfold g_X7_changed_92 at hf
    refine lv_istore (lv' := [(10, .int z0), (0, .ref (X.2.2.2 a0)), (3, .int x3), (4, .int x4), (5, .int x5), (7, .int x7), (8, .int x8)]) hx hb dX7_changed_92 hl (by decide) rfl (fun ls hl => ?_)
    refine lv_iload hx hb dX7_changed_94 (lv_at hl 3 rfl) ?_
    refine lv_iload hx hb dX7_changed_96 (lv_at hl 4 rfl) ?_
    refine lv_iload hx hb dX7_changed_98 (lv_at hl 0 rfl) ?_
    refine lv_imul hx hb dX7_changed_100 ?_
    refine lv_iadd hx hb dX7_changed_101 ?_
    refine lv_istore (lv' := [(4, .int ((x4 + (x5 * z0)))), (10, .int z0), (0, .ref (X.2.2.2 a0)), (3, .int x3), (5, .int x5), (7, .int x7), (8, .int x8)]) hx hb dX7_changed_102 hl (by decide) rfl (fun ls hl => ?_)
    refine lv_iload hx hb dX7_changed_104 (lv_at hl 4 rfl) ?_
    refine lv_iload hx hb dX7_changed_106 (lv_at hl 1 rfl) ?_
    refine lv_if_ne (tgt := 115) hx hb dX7_changed_108 (by decide) (fun c1 => ?_) (fun c1 => ?_)
    · replace hf := ite_f c1 hf
      refine lv_bipush (v := 10) hx hb dX7_changed_115 (by decide) ?_
      exact B117 k18 hk18 _ _ _ _ _ _ _ hf H locs ls (lv_sub hl [2, 3, 0, 5, 6] rfl) hH
    · replace hf := ite_t c1 hf
      refine lv_iconst (v := 1) hx hb dX7_changed_111 (by decide) ?_
      refine lv_goto (tgt := 117) hx hb dX7_changed_112 (by decide) ?_
      exact B117 k18 hk18 _ _ _ _ _ _ _ hf H locs ls (lv_sub hl [2, 3, 0, 5, 6] rfl) hH
  have B75 : ∀ (k18 : Int32 → Int32 → Int32 → Int32 → Int32 → Hp → Option (Int32 × Hp)) (hk18 : ∀ (x3 : Int32) (x4 : Int32) (x5 : Int32) (x6 : Int32) (x7 : Int32) (h : Hp), k18 x3 x4 x5 x6 x7 h = some (r0, h0) → BK p l e ({ frames := 1, cells := 0, slots := 0, locals := 21 }) s m args below meth c (MQ below (cQi X r0 h0) args s 0 0 (AD X)) X 11 18 [(0, .ref (X.2.2.2 a0)), (3, .int x3), (4, .int x4), (5, .int x5), (6, .int x6), (7, .int x7)] [] h) (x3 : Int32) (x4 : Int32) (x5 : Int32) (x7 : Int32) (x8 : Int32) (z0 : Int32) (h : Hp), g_X7_changed_75 a0 a1 a2 k18 x3 x4 x5 x7 x8 z0 h = some (r0, h0) → BK p l e ({ frames := 1, cells := 0, slots := 0, locals := 21 }) s m args below meth c (MQ below (cQi X r0 h0) args s 0 0 (AD X)) X 11 75 [(0, .ref (X.2.2.2 a0)), (3, .int x3), (4, .int x4), (5, .int x5), (7, .int x7), (8, .int x8)] [.int z0] h := by
    intro k18 hk18 x3 x4 x5 x7 x8 z0 h hf H locs ls hl hH
    unfold g_X7_changed_75 at hf
    refine lv_istore (lv' := [(9, .int z0), (0, .ref (X.2.2.2 a0)), (3, .int x3), (4, .int x4), (5, .int x5), (7, .int x7), (8, .int x8)]) hx hb dX7_changed_75 hl (by decide) rfl (fun ls hl => ?_)
    refine lv_iload hx hb dX7_changed_77 (lv_at hl 0 rfl) ?_
    refine lv_if_eq (tgt := 90) hx hb dX7_changed_79 (by decide) (fun c2 => ?_) (fun c2 => ?_)
    · replace hf := ite_t c2 hf
      refine lv_iload hx hb dX7_changed_90 (lv_at hl 6 rfl) ?_
      exact B92 k18 hk18 _ _ _ _ _ _ _ hf H locs ls (lv_sub hl [1, 2, 3, 4, 5, 6] rfl) hH
    · replace hf := ite_f c2 hf
      refine lv_aload_n hx hb dX7_changed_82 rfl (lv_at hl 1 rfl) ?_
      refine lv_iload_n hx hb dX7_changed_83 rfl (lv_at hl 2 rfl) ?_
      refine lv_iconst (v := 1) hx hb dX7_changed_84 (by decide) ?_
      refine lv_iadd hx hb dX7_changed_85 ?_
      obtain ⟨o3, hf⟩ := ite_ok hf
      refine wk_iald S hK hH t0 o3 dX7_changed_86 ?_
      refine lv_goto (tgt := 92) hx hb dX7_changed_87 (by decide) ?_
      exact B92 k18 hk18 _ _ _ _ _ _ _ hf H locs ls (lv_sub hl [1, 2, 3, 4, 5, 6] rfl) hH
  have B74 : ∀ (k18 : Int32 → Int32 → Int32 → Int32 → Int32 → Hp → Option (Int32 × Hp)) (hk18 : ∀ (x3 : Int32) (x4 : Int32) (x5 : Int32) (x6 : Int32) (x7 : Int32) (h : Hp), k18 x3 x4 x5 x6 x7 h = some (r0, h0) → BK p l e ({ frames := 1, cells := 0, slots := 0, locals := 21 }) s m args below meth c (MQ below (cQi X r0 h0) args s 0 0 (AD X)) X 11 18 [(0, .ref (X.2.2.2 a0)), (3, .int x3), (4, .int x4), (5, .int x5), (6, .int x6), (7, .int x7)] [] h) (x3 : Int32) (x4 : Int32) (x5 : Int32) (x7 : Int32) (x8 : Int32) (h : Hp), g_X7_changed_74 a0 a1 a2 k18 x3 x4 x5 x7 x8 h = some (r0, h0) → BK p l e ({ frames := 1, cells := 0, slots := 0, locals := 21 }) s m args below meth c (MQ below (cQi X r0 h0) args s 0 0 (AD X)) X 11 74 [(0, .ref (X.2.2.2 a0)), (3, .int x3), (4, .int x4), (5, .int x5), (7, .int x7), (8, .int x8)] [] h := by
    intro k18 hk18 x3 x4 x5 x7 x8 h hf H locs ls hl hH
    unfold g_X7_changed_74 at hf
    refine lv_iconst (v := 0) hx hb dX7_changed_74 (by decide) ?_
    exact B75 k18 hk18 _ _ _ _ _ _ _ hf H locs ls (lv_sub hl [0, 1, 2, 3, 4, 5] rfl) hH
  have B18 : ∀ (k18 : Int32 → Int32 → Int32 → Int32 → Int32 → Hp → Option (Int32 × Hp)) (hk18 : ∀ (x3 : Int32) (x4 : Int32) (x5 : Int32) (x6 : Int32) (x7 : Int32) (h : Hp), k18 x3 x4 x5 x6 x7 h = some (r0, h0) → BK p l e ({ frames := 1, cells := 0, slots := 0, locals := 21 }) s m args below meth c (MQ below (cQi X r0 h0) args s 0 0 (AD X)) X 11 18 [(0, .ref (X.2.2.2 a0)), (3, .int x3), (4, .int x4), (5, .int x5), (6, .int x6), (7, .int x7)] [] h) (x3 : Int32) (x4 : Int32) (x5 : Int32) (x6 : Int32) (x7 : Int32) (h : Hp), g_X7_changed_18 a0 a1 a2 k18 x3 x4 x5 x6 x7 h = some (r0, h0) → BK p l e ({ frames := 1, cells := 0, slots := 0, locals := 21 }) s m args below meth c (MQ below (cQi X r0 h0) args s 0 0 (AD X)) X 11 18 [(0, .ref (X.2.2.2 a0)), (3, .int x3), (4, .int x4), (5, .int x5), (6, .int x6), (7, .int x7)] [] h := by
    intro k18 hk18 x3 x4 x5 x6 x7 h hf H locs ls hl hH
    unfold g_X7_changed_18 at hf
    refine lv_iload hx hb dX7_changed_18 (lv_at hl 5 rfl) ?_
    refine lv_if_le (tgt := 134) hx hb dX7_changed_20 (by decide) (fun c4 => ?_) (fun c4 => ?_)
    · replace hf := ite_t c4 hf
      refine lv_iload hx hb dX7_changed_134 (lv_at hl 2 rfl) ?_
      exact wk_iret S hr hlk hK hN hH hf dX7_changed_136
    · replace hf := ite_f c4 hf
      refine lv_iload hx hb dX7_changed_23 (lv_at hl 5 rfl) ?_
      refine lv_bipush (v := 10) hx hb dX7_changed_25 (by decide) ?_
      refine lv_irem hx hb dX7_changed_27 (by decide) ?_
      refine lv_istore (lv' := [(8, .int ((x7 - x7 / (10 : Int32) * (10 : Int32)))), (0, .ref (X.2.2.2 a0)), (3, .int x3), (4, .int x4), (5, .int x5), (6, .int x6), (7, .int x7)]) hx hb dX7_changed_28 hl (by decide) rfl (fun ls hl => ?_)
      refine lv_iload hx hb dX7_changed_30 (lv_at hl 0 rfl) ?_
      refine lv_aload_n hx hb dX7_changed_32 rfl (lv_at hl 1 rfl) ?_
      refine lv_iload_n hx hb dX7_changed_33 rfl (lv_at hl 2 rfl) ?_
      obtain ⟨o5, hf⟩ := ite_ok hf
      refine wk_iald S hK hH t0 o5 dX7_changed_34 ?_
      refine lv_icmp_ne (tgt := 74) hx hb dX7_changed_35 (by decide) (fun c6 => ?_) (fun c6 => ?_)
      · replace hf := ite_f c6 hf
        exact B74 k18 hk18 _ _ _ _ _ _ hf H locs ls (lv_sub hl [1, 2, 3, 4, 6, 0] rfl) hH
      · replace hf := ite_t c6 hf
        refine lv_aload_n hx hb dX7_changed_38 rfl (lv_at hl 1 rfl) ?_
        refine lv_iload_n hx hb dX7_changed_39 rfl (lv_at hl 2 rfl) ?_
        refine lv_iconst (v := 2) hx hb dX7_changed_40 (by decide) ?_
        refine lv_iadd hx hb dX7_changed_41 ?_
        obtain ⟨o7, hf⟩ := ite_ok hf
        refine wk_iald S hK hH t0 o7 dX7_changed_42 ?_
        refine lv_iload hx hb dX7_changed_43 (lv_at hl 6 rfl) ?_
        refine lv_bipush (v := 10) hx hb dX7_changed_45 (by decide) ?_
        refine lv_idiv hx hb dX7_changed_47 (by decide) ?_
        refine lv_bipush (v := 10) hx hb dX7_changed_48 (by decide) ?_
        refine lv_irem hx hb dX7_changed_50 (by decide) ?_
        obtain ⟨r10, h9, hq8, hf⟩ := bnd_ok hf
        refine wk_callSi (As := [.int ((h.1 a0 ((x3 + (2 : Int32))).toNatClampNeg)), .int (((x7 / (10 : Int32)) - (x7 / (10 : Int32)) / (10 : Int32) * (10 : Int32)))]) (rest := []) S hK hN hH (C_X7_fits l X hI (h.1 a0 ((x3 + (2 : Int32))).toNatClampNeg) ((x7 / (10 : Int32)) - (x7 / (10 : Int32)) / (10 : Int32) * (10 : Int32)) _ _ _ hq8) (va_cwS 2 hts (gS wU_in m_799 m_800 m_41 m_801) rfl rfl rfl hdS_X7_fits ⟨Nat.le_of_ble_eq_true rfl, Nat.le_of_ble_eq_true rfl⟩) hl.1 rfl rfl (Nat.le_of_ble_eq_true rfl) dX7_changed_51 ⟨Nat.zero_le _, Nat.zero_le _⟩ (fun H locs hH => ?_)
        refine lv_if_eq (tgt := 74) hx hb dX7_changed_54 (by decide) (fun c11 => ?_) (fun c11 => ?_)
        · replace hf := ite_t c11 hf
          exact B74 k18 hk18 _ _ _ _ _ _ hf H locs ls (lv_sub hl [1, 2, 3, 4, 6, 0] rfl) hH
        · replace hf := ite_f c11 hf
          refine lv_aload_n hx hb dX7_changed_57 rfl (lv_at hl 1 rfl) ?_
          refine lv_iload_n hx hb dX7_changed_58 rfl (lv_at hl 2 rfl) ?_
          refine lv_iconst (v := 3) hx hb dX7_changed_59 (by decide) ?_
          refine lv_iadd hx hb dX7_changed_60 ?_
          obtain ⟨o12, hf⟩ := ite_ok hf
          refine wk_iald S hK hH t0 o12 dX7_changed_61 ?_
          refine lv_iload hx hb dX7_changed_62 (lv_at hl 5 rfl) ?_
          obtain ⟨r15, h14, hq13, hf⟩ := bnd_ok hf
          refine wk_callSi (As := [.int ((h9.1 a0 ((x3 + (3 : Int32))).toNatClampNeg)), .int x6]) (rest := []) S hK hN hH (C_X7_fits l X hI (h9.1 a0 ((x3 + (3 : Int32))).toNatClampNeg) x6 _ _ _ hq13) (va_cwS 2 hts (gS wU_in m_799 m_800 m_41 m_801) rfl rfl rfl hdS_X7_fits ⟨Nat.le_of_ble_eq_true rfl, Nat.le_of_ble_eq_true rfl⟩) hl.1 rfl rfl (Nat.le_of_ble_eq_true rfl) dX7_changed_64 ⟨Nat.zero_le _, Nat.zero_le _⟩ (fun H locs hH => ?_)
          refine lv_if_eq (tgt := 74) hx hb dX7_changed_67 (by decide) (fun c16 => ?_) (fun c16 => ?_)
          · replace hf := ite_t c16 hf
            exact B74 k18 hk18 _ _ _ _ _ _ hf H locs ls (lv_sub hl [1, 2, 3, 4, 6, 0] rfl) hH
          · replace hf := ite_f c16 hf
            refine lv_iconst (v := 1) hx hb dX7_changed_70 (by decide) ?_
            refine lv_goto (tgt := 75) hx hb dX7_changed_71 (by decide) ?_
            exact B75 k18 hk18 _ _ _ _ _ _ _ hf H locs ls (lv_sub hl [1, 2, 3, 4, 6, 0] rfl) hH
  have BL18 : ∀ (n : Nat) (x3 : Int32) (x4 : Int32) (x5 : Int32) (x6 : Int32) (x7 : Int32) (h : Hp), f_X7_changed_18 a0 a1 a2 n x3 x4 x5 x6 x7 h = some (r0, h0) → BK p l e ({ frames := 1, cells := 0, slots := 0, locals := 21 }) s m args below meth c (MQ below (cQi X r0 h0) args s 0 0 (AD X)) X 11 18 [(0, .ref (X.2.2.2 a0)), (3, .int x3), (4, .int x4), (5, .int x5), (6, .int x6), (7, .int x7)] [] h := by
    intro n
    induction n with
    | zero => intro x3 x4 x5 x6 x7 h hf; cases hf
    | succ n ih => intro x3 x4 x5 x6 x7 h hf; exact B18 _ ih _ _ _ _ _ _ hf
  intro H locs ls hl hH
  replace hl : lv_has ls 11 [(0, .ref (X.2.2.2 a0)), (1, .int a1), (2, .int a2)] := hl
  unfold f_X7_changed at hf
  refine lv_iconst (v := 4) hx hb dX7_changed_0 (by decide) ?_
  refine lv_iconst (v := 4) hx hb dX7_changed_1 (by decide) ?_
  refine lv_iload_n hx hb dX7_changed_2 rfl (lv_at hl 1 rfl) ?_
  refine lv_imul hx hb dX7_changed_3 ?_
  refine lv_iadd hx hb dX7_changed_4 ?_
  refine lv_istore_n (lv' := [(3, .int (((4 : Int32) + ((4 : Int32) * a1)))), (0, .ref (X.2.2.2 a0)), (1, .int a1), (2, .int a2)]) hx hb dX7_changed_5 rfl hl (by decide) rfl (fun ls hl => ?_)
  refine lv_iconst (v := 0) hx hb dX7_changed_6 (by decide) ?_
  refine lv_istore (lv' := [(4, .int ((0 : Int32))), (3, .int (((4 : Int32) + ((4 : Int32) * a1)))), (0, .ref (X.2.2.2 a0)), (1, .int a1), (2, .int a2)]) hx hb dX7_changed_7 hl (by decide) rfl (fun ls hl => ?_)
  refine lv_iconst (v := 1) hx hb dX7_changed_9 (by decide) ?_
  refine lv_istore (lv' := [(5, .int ((1 : Int32))), (4, .int ((0 : Int32))), (3, .int (((4 : Int32) + ((4 : Int32) * a1)))), (0, .ref (X.2.2.2 a0)), (1, .int a1), (2, .int a2)]) hx hb dX7_changed_10 hl (by decide) rfl (fun ls hl => ?_)
  refine lv_iconst (v := 0) hx hb dX7_changed_12 (by decide) ?_
  refine lv_istore (lv' := [(6, .int ((0 : Int32))), (5, .int ((1 : Int32))), (4, .int ((0 : Int32))), (3, .int (((4 : Int32) + ((4 : Int32) * a1)))), (0, .ref (X.2.2.2 a0)), (1, .int a1), (2, .int a2)]) hx hb dX7_changed_13 hl (by decide) rfl (fun ls hl => ?_)
  refine lv_iload_n hx hb dX7_changed_15 rfl (lv_at hl 6 rfl) ?_
  refine lv_istore (lv' := [(7, .int a2), (6, .int ((0 : Int32))), (5, .int ((1 : Int32))), (4, .int ((0 : Int32))), (3, .int (((4 : Int32) + ((4 : Int32) * a1)))), (0, .ref (X.2.2.2 a0)), (1, .int a1), (2, .int a2)]) hx hb dX7_changed_16 hl (by decide) rfl (fun ls hl => ?_)
  exact BL18 FU _ _ _ _ _ _ hf H locs ls (lv_sub hl [5, 4, 3, 2, 1, 0] rfl) hH
set_option maxHeartbeats 4000000 in
set_option maxRecDepth 100000 in
theorem C_X7_behindAll (l : Launch) (X : Cx) (hI : Inj X) {a0 : Nat} (t0 : tY a0 = 100) (a1 : Int32) (a2 : Int32) (a3 : Int32) (h : Hp) (r0 : Int32) (h0 : Hp) (hf : f_X7_behindAll a0 a1 a2 a3 h = some (r0, h0)) : Mi l X yX7_behindAll cX7_behindAll 6 (some .int) 2 51 h [.ref (X.2.2.2 a0), .int a1, .int a2, .int a3] r0 h0 := by
  refine BD_of (own := RX7) hI rfl (by decide) (Nat.le_of_ble_eq_true rfl) ?_
  intro p e s m args below meth c S hr hlk hK hN
  obtain ⟨hx, hb, hml, hown, hts⟩ := id S
  have B38 : ∀ (k6 : Int32 → Int32 → Hp → Option (Int32 × Hp)) (hk6 : ∀ (x4 : Int32) (x5 : Int32) (h : Hp), k6 x4 x5 h = some (r0, h0) → BK p l e ({ frames := 2, cells := 0, slots := 0, locals := 51 }) s m args below meth c (MQ below (cQi X r0 h0) args s 0 0 (AD X)) X 6 6 [(0, .ref (X.2.2.2 a0)), (2, .int a2), (3, .int a3), (4, .int x4), (5, .int x5)] [] h) (x5 : Int32) (z0 : Int32) (h : Hp), g_X7_behindAll_38 a0 a1 a2 a3 k6 x5 z0 h = some (r0, h0) → BK p l e ({ frames := 2, cells := 0, slots := 0, locals := 51 }) s m args below meth c (MQ below (cQi X r0 h0) args s 0 0 (AD X)) X 6 38 [(0, .ref (X.2.2.2 a0)), (2, .int a2), (3, .int a3), (5, .int x5)] [.int z0] h := by
    intro k6 hk6 x5 z0 h hf H locs ls hl hH
    unfold g_X7_behindAll_38 at hf
    refine lv_istore (lv' := [(4, .int z0), (0, .ref (X.2.2.2 a0)), (2, .int a2), (3, .int a3), (5, .int x5)]) hx hb dX7_behindAll_38 hl (by decide) rfl (fun ls hl => ?_)
    refine lv_iinc (v := (x5 + (1 : Int32))) (lv' := [(5, .int ((x5 + (1 : Int32)))), (4, .int z0), (0, .ref (X.2.2.2 a0)), (2, .int a2), (3, .int a3)]) hx hb dX7_behindAll_40 hl (k := 4) rfl rfl (by decide) rfl (fun ls hl => ?_)
    refine lv_goto (tgt := 6) hx hb dX7_behindAll_43 (by decide) ?_
    exact hk6 _ _ _ hf H locs ls (lv_sub hl [2, 3, 4, 1, 0] rfl) hH
  have B6 : ∀ (k6 : Int32 → Int32 → Hp → Option (Int32 × Hp)) (hk6 : ∀ (x4 : Int32) (x5 : Int32) (h : Hp), k6 x4 x5 h = some (r0, h0) → BK p l e ({ frames := 2, cells := 0, slots := 0, locals := 51 }) s m args below meth c (MQ below (cQi X r0 h0) args s 0 0 (AD X)) X 6 6 [(0, .ref (X.2.2.2 a0)), (2, .int a2), (3, .int a3), (4, .int x4), (5, .int x5)] [] h) (x4 : Int32) (x5 : Int32) (h : Hp), g_X7_behindAll_6 a0 a1 a2 a3 k6 x4 x5 h = some (r0, h0) → BK p l e ({ frames := 2, cells := 0, slots := 0, locals := 51 }) s m args below meth c (MQ below (cQi X r0 h0) args s 0 0 (AD X)) X 6 6 [(0, .ref (X.2.2.2 a0)), (2, .int a2), (3, .int a3), (4, .int x4), (5, .int x5)] [] h := by
    intro k6 hk6 x4 x5 h hf H locs ls hl hH
    unfold g_X7_behindAll_6 at hf
    refine lv_iload hx hb dX7_behindAll_6 (lv_at hl 4 rfl) ?_
    refine lv_iload_n hx hb dX7_behindAll_8 rfl (lv_at hl 1 rfl) ?_
    refine lv_icmp_ge (tgt := 46) hx hb dX7_behindAll_9 (by decide) (fun c1 => ?_) (fun c1 => ?_)
    · replace hf := ite_t c1 hf
      refine lv_iload hx hb dX7_behindAll_46 (lv_at hl 3 rfl) ?_
      exact wk_iret S hr hlk hK hN hH hf dX7_behindAll_48
    · replace hf := ite_f c1 hf
      refine lv_iload_n hx hb dX7_behindAll_12 rfl (lv_at hl 2 rfl) ?_
      refine lv_aload_n hx hb dX7_behindAll_13 rfl (lv_at hl 0 rfl) ?_
      refine lv_iload hx hb dX7_behindAll_14 (lv_at hl 4 rfl) ?_
      obtain ⟨o2, hf⟩ := ite_ok hf
      refine wk_iald S hK hH t0 o2 dX7_behindAll_16 ?_
      obtain ⟨r5, h4, hq3, hf⟩ := bnd_ok hf
      refine wk_callSi (As := [.int a3, .int ((h.1 a0 (x5).toNatClampNeg))]) (rest := []) S hK hN hH (C_X7_has l X hI a3 (h.1 a0 (x5).toNatClampNeg) _ _ _ hq3) (va_cwS 2 hts (gS wU_in m_793 m_794 m_41 m_795) rfl rfl rfl hdS_X7_has ⟨Nat.le_of_ble_eq_true rfl, Nat.le_of_ble_eq_true rfl⟩) hl.1 rfl rfl (Nat.le_of_ble_eq_true rfl) dX7_behindAll_17 ⟨Nat.zero_le _, Nat.zero_le _⟩ (fun H locs hH => ?_)
      refine lv_if_eq (tgt := 36) hx hb dX7_behindAll_20 (by decide) (fun c6 => ?_) (fun c6 => ?_)
      · replace hf := ite_t c6 hf
        refine lv_iload hx hb dX7_behindAll_36 (lv_at hl 3 rfl) ?_
        exact B38 k6 hk6 _ _ _ hf H locs ls (lv_sub hl [0, 1, 2, 4] rfl) hH
      · replace hf := ite_f c6 hf
        refine lv_aload_n hx hb dX7_behindAll_23 rfl (lv_at hl 0 rfl) ?_
        refine lv_aload_n hx hb dX7_behindAll_24 rfl (lv_at hl 0 rfl) ?_
        refine lv_iload hx hb dX7_behindAll_25 (lv_at hl 4 rfl) ?_
        obtain ⟨o7, hf⟩ := ite_ok hf
        refine wk_iald S hK hH t0 o7 dX7_behindAll_27 ?_
        refine lv_iload hx hb dX7_behindAll_28 (lv_at hl 3 rfl) ?_
        obtain ⟨r10, h9, hq8, hf⟩ := bnd_ok hf
        refine wk_callSi (As := [.ref (X.2.2.2 a0), .int ((h4.1 a0 (x5).toNatClampNeg)), .int x4]) (rest := []) S hK hN hH (C_X7_changed l X hI t0 (h4.1 a0 (x5).toNatClampNeg) x4 _ _ _ hq8) (va_cwS 3 hts (gS wU_in m_796 m_797 m_41 m_798) rfl rfl rfl hdS_X7_changed ⟨Nat.le_of_ble_eq_true rfl, Nat.le_of_ble_eq_true rfl⟩) hl.1 rfl rfl (Nat.le_of_ble_eq_true rfl) dX7_behindAll_30 ⟨Nat.zero_le _, Nat.zero_le _⟩ (fun H locs hH => ?_)
        refine lv_goto (tgt := 38) hx hb dX7_behindAll_33 (by decide) ?_
        exact B38 k6 hk6 _ _ _ hf H locs ls (lv_sub hl [0, 1, 2, 4] rfl) hH
  have BL6 : ∀ (n : Nat) (x4 : Int32) (x5 : Int32) (h : Hp), f_X7_behindAll_6 a0 a1 a2 a3 n x4 x5 h = some (r0, h0) → BK p l e ({ frames := 2, cells := 0, slots := 0, locals := 51 }) s m args below meth c (MQ below (cQi X r0 h0) args s 0 0 (AD X)) X 6 6 [(0, .ref (X.2.2.2 a0)), (2, .int a2), (3, .int a3), (4, .int x4), (5, .int x5)] [] h := by
    intro n
    induction n with
    | zero => intro x4 x5 h hf; cases hf
    | succ n ih => intro x4 x5 h hf; exact B6 _ ih _ _ _ hf
  intro H locs ls hl hH
  replace hl : lv_has ls 6 [(0, .ref (X.2.2.2 a0)), (1, .int a1), (2, .int a2), (3, .int a3)] := hl
  unfold f_X7_behindAll at hf
  refine lv_iload_n hx hb dX7_behindAll_0 rfl (lv_at hl 1 rfl) ?_
  refine lv_istore (lv' := [(4, .int a1), (0, .ref (X.2.2.2 a0)), (1, .int a1), (2, .int a2), (3, .int a3)]) hx hb dX7_behindAll_1 hl (by decide) rfl (fun ls hl => ?_)
  refine lv_iconst (v := 0) hx hb dX7_behindAll_3 (by decide) ?_
  refine lv_istore (lv' := [(5, .int ((0 : Int32))), (4, .int a1), (0, .ref (X.2.2.2 a0)), (1, .int a1), (2, .int a2), (3, .int a3)]) hx hb dX7_behindAll_4 hl (by decide) rfl (fun ls hl => ?_)
  exact BL6 FU _ _ _ hf H locs ls (lv_sub hl [2, 4, 5, 1, 0] rfl) hH
set_option maxHeartbeats 4000000 in
set_option maxRecDepth 100000 in
theorem C_X7_join (l : Launch) (X : Cx) (hI : Inj X) (a0 : Int32) (a1 : Int32) (h : Hp) (r0 : Int32) (h0 : Hp) (hf : f_X7_join a0 a1 h = some (r0, h0)) : Mi l X yX7_join cX7_join 2 (some .int) 1 23 h [.int a0, .int a1] r0 h0 := by
  refine BD_of (own := RX7) hI rfl (by decide) (Nat.le_of_ble_eq_true rfl) ?_
  intro p e s m args below meth c S hr hlk hK hN
  obtain ⟨hx, hb, hml, hown, hts⟩ := id S
  intro H locs ls hl hH
  replace hl : lv_has ls 2 [(0, .int a0), (1, .int a1)] := hl
  unfold f_X7_join at hf
  refine lv_iload_n hx hb dX7_join_0 rfl (lv_at hl 0 rfl) ?_
  refine lv_bipush (v := 10) hx hb dX7_join_1 (by decide) ?_
  refine lv_iload_n hx hb dX7_join_3 rfl (lv_at hl 1 rfl) ?_
  obtain ⟨r3, h2, hq1, hf⟩ := bnd_ok hf
  refine wk_callSi (As := [.int a1]) (rest := [.int ((10 : Int32)), .int a0]) S hK hN hH (C_X7_size l X hI a1 _ _ _ hq1) (va_cwS 1 hts (gS wU_in m_784 m_785 m_41 m_786) rfl rfl rfl hdS_X7_size ⟨Nat.le_of_ble_eq_true rfl, Nat.le_of_ble_eq_true rfl⟩) hl.1 rfl rfl (Nat.le_of_ble_eq_true rfl) dX7_join_4 ⟨Nat.zero_le _, Nat.zero_le _⟩ (fun H locs hH => ?_)
  obtain ⟨r6, h5, hq4, hf⟩ := bnd_ok hf
  refine wk_callSi (As := [.int ((10 : Int32)), .int r3]) (rest := [.int a0]) S hK hN hH (C_X7_power l X hI (10 : Int32) r3 _ _ _ hq4) (va_cwS 2 hts (gS wU_in m_787 m_788 m_41 m_789) rfl rfl rfl hdS_X7_power ⟨Nat.le_of_ble_eq_true rfl, Nat.le_of_ble_eq_true rfl⟩) hl.1 rfl rfl (Nat.le_of_ble_eq_true rfl) dX7_join_7 ⟨Nat.zero_le _, Nat.zero_le _⟩ (fun H locs hH => ?_)
  refine lv_imul hx hb dX7_join_10 ?_
  refine lv_iload_n hx hb dX7_join_11 rfl (lv_at hl 1 rfl) ?_
  refine lv_iadd hx hb dX7_join_12 ?_
  exact wk_iret S hr hlk hK hN hH hf dX7_join_13
set_option maxHeartbeats 4000000 in
set_option maxRecDepth 100000 in
theorem C_X7_raw (l : Launch) (X : Cx) (hI : Inj X) {a0 : Nat} (t0 : tY a0 = 6) (a1 : Int32) (a2 : Int32) (h : Hp) (r0 : Int32) (h0 : Hp) (hf : f_X7_raw a0 a1 a2 h = some (r0, h0)) : Mi l X yX7_raw cX7_raw 3 (some .int) 2 44 h [.ref (X.2.2.2 a0), .int a1, .int a2] r0 h0 := by
  refine BD_of (own := RX7) hI rfl (by decide) (Nat.le_of_ble_eq_true rfl) ?_
  intro p e s m args below meth c S hr hlk hK hN
  obtain ⟨hx, hb, hml, hown, hts⟩ := id S
  intro H locs ls hl hH
  replace hl : lv_has ls 3 [(0, .ref (X.2.2.2 a0)), (1, .int a1), (2, .int a2)] := hl
  unfold f_X7_raw at hf
  refine lv_aload_n hx hb dX7_raw_0 rfl (lv_at hl 0 rfl) ?_
  refine wk_getr (ci := 6) (k := 9) S hK hH j_X7 t0 rfl hq_6_9 (hts _ (wU_in _ m_633)) dX7_raw_1 ?_
  refine lv_iload_n hx hb dX7_raw_4 rfl (lv_at hl 1 rfl) ?_
  obtain ⟨o1, hf⟩ := ite_ok hf
  refine wk_iald S hK hH (tr_6_9 t0) o1 dX7_raw_5 ?_
  refine lv_aload_n hx hb dX7_raw_6 rfl (lv_at hl 0 rfl) ?_
  refine wk_getr (ci := 6) (k := 10) S hK hH j_X7 t0 rfl hq_6_10 (hts _ (wU_in _ m_634)) dX7_raw_7 ?_
  refine lv_iload_n hx hb dX7_raw_10 rfl (lv_at hl 2 rfl) ?_
  obtain ⟨o2, hf⟩ := ite_ok hf
  refine wk_iald S hK hH (tr_6_10 t0) o2 dX7_raw_11 ?_
  obtain ⟨r5, h4, hq3, hf⟩ := bnd_ok hf
  refine wk_callSi (As := [.int ((h.1 (rF a0 9) (a1).toNatClampNeg)), .int ((h.1 (rF a0 10) (a2).toNatClampNeg))]) (rest := []) S hK hN hH (C_X7_join l X hI (h.1 (rF a0 9) (a1).toNatClampNeg) (h.1 (rF a0 10) (a2).toNatClampNeg) _ _ _ hq3) (va_cwS 2 hts (gS wU_in m_781 m_782 m_41 m_783) rfl rfl rfl hdS_X7_join ⟨Nat.le_of_ble_eq_true rfl, Nat.le_of_ble_eq_true rfl⟩) hl.1 rfl rfl (Nat.le_of_ble_eq_true rfl) dX7_raw_12 ⟨Nat.zero_le _, Nat.zero_le _⟩ (fun H locs hH => ?_)
  exact wk_iret S hr hlk hK hN hH hf dX7_raw_15
set_option maxHeartbeats 4000000 in
set_option maxRecDepth 100000 in
theorem C_X7_madeBy (l : Launch) (X : Cx) (hI : Inj X) {a0 : Nat} (t0 : tY a0 = 6) {a1 : Nat} (t1 : tY a1 = 100) (a2 : Int32) (a3 : Int32) (a4 : Int32) (h : Hp) (r0 : Int32) (h0 : Hp) (hf : f_X7_madeBy a0 a1 a2 a3 a4 h = some (r0, h0)) : Mi l X yX7_madeBy cX7_madeBy 5 (some .int) 3 76 h [.ref (X.2.2.2 a0), .ref (X.2.2.2 a1), .int a2, .int a3, .int a4] r0 h0 := by
  refine BD_of (own := RX7) hI rfl (by decide) (Nat.le_of_ble_eq_true rfl) ?_
  intro p e s m args below meth c S hr hlk hK hN
  obtain ⟨hx, hb, hml, hown, hts⟩ := id S
  intro H locs ls hl hH
  replace hl : lv_has ls 5 [(0, .ref (X.2.2.2 a0)), (1, .ref (X.2.2.2 a1)), (2, .int a2), (3, .int a3), (4, .int a4)] := hl
  unfold f_X7_madeBy at hf
  refine lv_aload_n hx hb dX7_madeBy_0 rfl (lv_at hl 1 rfl) ?_
  refine lv_aload_n hx hb dX7_madeBy_1 rfl (lv_at hl 0 rfl) ?_
  refine lv_iload_n hx hb dX7_madeBy_2 rfl (lv_at hl 2 rfl) ?_
  refine lv_iload_n hx hb dX7_madeBy_3 rfl (lv_at hl 3 rfl) ?_
  obtain ⟨r3, h2, hq1, hf⟩ := bnd_ok hf
  refine wk_callVi (ci := 6) (b := a0) (As := [.int a2, .int a3]) (rest := [.ref (X.2.2.2 a1)]) S hK hN hH t0 (by decide) rfl (C_X7_raw l X hI t0 a2 a3 _ _ _ hq1) (cwV 2 hts (gV wU_in m_777 m_779 m_19 m_41 m_780) rfl rfl rfl hdV_X7_raw ⟨Nat.le_of_ble_eq_true rfl, Nat.le_of_ble_eq_true rfl⟩) hl.1 rfl rfl (Nat.le_of_ble_eq_true rfl) dX7_madeBy_4 ⟨Nat.zero_le _, Nat.zero_le _⟩ (fun H locs hH => ?_)
  refine lv_aload_n hx hb dX7_madeBy_7 rfl (lv_at hl 0 rfl) ?_
  refine wk_geti (ci := 6) (k := 13) S hK hH j_X7 t0 rfl hq_6_13 (hts _ (wU_in _ m_637)) dX7_madeBy_8 ?_
  refine lv_iload hx hb dX7_madeBy_11 (lv_at hl 4 rfl) ?_
  obtain ⟨r6, h5, hq4, hf⟩ := bnd_ok hf
  refine wk_callSi (As := [.ref (X.2.2.2 a1), .int r3, .int ((h2.1 a0 13)), .int a4]) (rest := []) S hK hN hH (C_X7_behindAll l X hI t1 r3 (h2.1 a0 13) a4 _ _ _ hq4) (va_cwS 4 hts (gS wU_in m_790 m_791 m_41 m_792) rfl rfl rfl hdS_X7_behindAll ⟨Nat.le_of_ble_eq_true rfl, Nat.le_of_ble_eq_true rfl⟩) hl.1 rfl rfl (Nat.le_of_ble_eq_true rfl) dX7_madeBy_13 ⟨Nat.zero_le _, Nat.zero_le _⟩ (fun H locs hH => ?_)
  exact wk_iret S hr hlk hK hN hH hf dX7_madeBy_16
set_option maxHeartbeats 4000000 in
set_option maxRecDepth 100000 in
theorem C_X7_isRoot (l : Launch) (X : Cx) (hI : Inj X) {a0 : Nat} (t0 : tY a0 = 6) (a1 : Int32) (h : Hp) (r0 : Int32) (h0 : Hp) (hf : f_X7_isRoot a0 a1 h = some (r0, h0)) : Mi l X yX7_isRoot cX7_isRoot 2 (some .boolean) 1 25 h [.ref (X.2.2.2 a0), .int a1] r0 h0 := by
  refine BD_of (own := RX7) hI rfl (by decide) (Nat.le_of_ble_eq_true rfl) ?_
  intro p e s m args below meth c S hr hlk hK hN
  obtain ⟨hx, hb, hml, hown, hts⟩ := id S
  intro H locs ls hl hH
  replace hl : lv_has ls 2 [(0, .ref (X.2.2.2 a0)), (1, .int a1)] := hl
  unfold f_X7_isRoot at hf
  refine lv_iload_n hx hb dX7_isRoot_0 rfl (lv_at hl 1 rfl) ?_
  refine lv_i2l hx hb dX7_isRoot_1 rfl ?_
  refine lv_lconst (v := 0) hx hb dX7_isRoot_2 (by decide) ?_
  refine lv_aload_n hx hb dX7_isRoot_3 rfl (lv_at hl 0 rfl) ?_
  refine wk_geti (ci := 6) (k := 11) S hK hH j_X7 t0 rfl hq_6_11 (hts _ (wU_in _ m_635)) dX7_isRoot_4 ?_
  refine lv_iconst (v := 1) hx hb dX7_isRoot_7 (by decide) ?_
  refine lv_isub hx hb dX7_isRoot_8 ?_
  refine lv_i2l hx hb dX7_isRoot_9 rfl ?_
  obtain ⟨r3, h2, hq1, hf⟩ := bnd_ok hf
  refine wk_callSi (As := [.long ((a1).toInt64), .long ((0 : Int64)), .long ((((h.1 a0 11) - (1 : Int32))).toInt64)]) (rest := []) S hK hN hH (C_X7_in l X hI ((a1).toInt64) (0 : Int64) ((((h.1 a0 11) - (1 : Int32))).toInt64) _ _ _ hq1) (va_cwS 3 hts (gS wU_in m_720 m_721 m_41 m_722) rfl rfl rfl hdS_X7_in ⟨Nat.le_of_ble_eq_true rfl, Nat.le_of_ble_eq_true rfl⟩) hl.1 rfl rfl (Nat.le_of_ble_eq_true rfl) dX7_isRoot_10 ⟨Nat.zero_le _, Nat.zero_le _⟩ (fun H locs hH => ?_)
  obtain ⟨o4, hf⟩ := ite_ok hf
  exact wk_zret S hr hlk hK hN hH (okZ_nar o4) hf dX7_isRoot_13
set_option maxHeartbeats 4000000 in
set_option maxRecDepth 100000 in
theorem C_X7_isEnding (l : Launch) (X : Cx) (hI : Inj X) {a0 : Nat} (t0 : tY a0 = 6) (a1 : Int32) (h : Hp) (r0 : Int32) (h0 : Hp) (hf : f_X7_isEnding a0 a1 h = some (r0, h0)) : Mi l X yX7_isEnding cX7_isEnding 2 (some .boolean) 1 25 h [.ref (X.2.2.2 a0), .int a1] r0 h0 := by
  refine BD_of (own := RX7) hI rfl (by decide) (Nat.le_of_ble_eq_true rfl) ?_
  intro p e s m args below meth c S hr hlk hK hN
  obtain ⟨hx, hb, hml, hown, hts⟩ := id S
  intro H locs ls hl hH
  replace hl : lv_has ls 2 [(0, .ref (X.2.2.2 a0)), (1, .int a1)] := hl
  unfold f_X7_isEnding at hf
  refine lv_iload_n hx hb dX7_isEnding_0 rfl (lv_at hl 1 rfl) ?_
  refine lv_i2l hx hb dX7_isEnding_1 rfl ?_
  refine lv_lconst (v := 0) hx hb dX7_isEnding_2 (by decide) ?_
  refine lv_aload_n hx hb dX7_isEnding_3 rfl (lv_at hl 0 rfl) ?_
  refine wk_geti (ci := 6) (k := 12) S hK hH j_X7 t0 rfl hq_6_12 (hts _ (wU_in _ m_636)) dX7_isEnding_4 ?_
  refine lv_iconst (v := 1) hx hb dX7_isEnding_7 (by decide) ?_
  refine lv_isub hx hb dX7_isEnding_8 ?_
  refine lv_i2l hx hb dX7_isEnding_9 rfl ?_
  obtain ⟨r3, h2, hq1, hf⟩ := bnd_ok hf
  refine wk_callSi (As := [.long ((a1).toInt64), .long ((0 : Int64)), .long ((((h.1 a0 12) - (1 : Int32))).toInt64)]) (rest := []) S hK hN hH (C_X7_in l X hI ((a1).toInt64) (0 : Int64) ((((h.1 a0 12) - (1 : Int32))).toInt64) _ _ _ hq1) (va_cwS 3 hts (gS wU_in m_720 m_721 m_41 m_722) rfl rfl rfl hdS_X7_in ⟨Nat.le_of_ble_eq_true rfl, Nat.le_of_ble_eq_true rfl⟩) hl.1 rfl rfl (Nat.le_of_ble_eq_true rfl) dX7_isEnding_10 ⟨Nat.zero_le _, Nat.zero_le _⟩ (fun H locs hH => ?_)
  obtain ⟨o4, hf⟩ := ite_ok hf
  exact wk_zret S hr hlk hK hN hH (okZ_nar o4) hf dX7_isEnding_13
set_option maxHeartbeats 4000000 in
set_option maxRecDepth 100000 in
theorem C_X7_isChange (l : Launch) (X : Cx) (hI : Inj X) {a0 : Nat} (t0 : tY a0 = 6) (a1 : Int32) (h : Hp) (r0 : Int32) (h0 : Hp) (hf : f_X7_isChange a0 a1 h = some (r0, h0)) : Mi l X yX7_isChange cX7_isChange 2 (some .boolean) 1 25 h [.ref (X.2.2.2 a0), .int a1] r0 h0 := by
  refine BD_of (own := RX7) hI rfl (by decide) (Nat.le_of_ble_eq_true rfl) ?_
  intro p e s m args below meth c S hr hlk hK hN
  obtain ⟨hx, hb, hml, hown, hts⟩ := id S
  intro H locs ls hl hH
  replace hl : lv_has ls 2 [(0, .ref (X.2.2.2 a0)), (1, .int a1)] := hl
  unfold f_X7_isChange at hf
  refine lv_iload_n hx hb dX7_isChange_0 rfl (lv_at hl 1 rfl) ?_
  refine lv_i2l hx hb dX7_isChange_1 rfl ?_
  refine lv_lconst (v := 0) hx hb dX7_isChange_2 (by decide) ?_
  refine lv_aload_n hx hb dX7_isChange_3 rfl (lv_at hl 0 rfl) ?_
  refine wk_geti (ci := 6) (k := 13) S hK hH j_X7 t0 rfl hq_6_13 (hts _ (wU_in _ m_637)) dX7_isChange_4 ?_
  refine lv_iconst (v := 1) hx hb dX7_isChange_7 (by decide) ?_
  refine lv_isub hx hb dX7_isChange_8 ?_
  refine lv_i2l hx hb dX7_isChange_9 rfl ?_
  obtain ⟨r3, h2, hq1, hf⟩ := bnd_ok hf
  refine wk_callSi (As := [.long ((a1).toInt64), .long ((0 : Int64)), .long ((((h.1 a0 13) - (1 : Int32))).toInt64)]) (rest := []) S hK hN hH (C_X7_in l X hI ((a1).toInt64) (0 : Int64) ((((h.1 a0 13) - (1 : Int32))).toInt64) _ _ _ hq1) (va_cwS 3 hts (gS wU_in m_720 m_721 m_41 m_722) rfl rfl rfl hdS_X7_in ⟨Nat.le_of_ble_eq_true rfl, Nat.le_of_ble_eq_true rfl⟩) hl.1 rfl rfl (Nat.le_of_ble_eq_true rfl) dX7_isChange_10 ⟨Nat.zero_le _, Nat.zero_le _⟩ (fun H locs hH => ?_)
  obtain ⟨o4, hf⟩ := ite_ok hf
  exact wk_zret S hr hlk hK hN hH (okZ_nar o4) hf dX7_isChange_13
set_option maxHeartbeats 4000000 in
set_option maxRecDepth 100000 in
theorem C_X7_write (l : Launch) (X : Cx) (hI : Inj X) {a0 : Nat} (t0 : tY a0 = 6) (a1 : Int32) (h : Hp) (r0 : Int32) (h0 : Hp) (hf : f_X7_write a0 a1 h = some (r0, h0)) : Mi l X yX7_write cX7_write 2 (some .int) 1 25 h [.ref (X.2.2.2 a0), .int a1] r0 h0 := by
  refine BD_of (own := RX7) hI rfl (by decide) (Nat.le_of_ble_eq_true rfl) ?_
  intro p e s m args below meth c S hr hlk hK hN
  obtain ⟨hx, hb, hml, hown, hts⟩ := id S
  intro H locs ls hl hH
  replace hl : lv_has ls 2 [(0, .ref (X.2.2.2 a0)), (1, .int a1)] := hl
  unfold f_X7_write at hf
  refine lv_iload_n hx hb dX7_write_0 rfl (lv_at hl 1 rfl) ?_
  refine lv_i2l hx hb dX7_write_1 rfl ?_
  refine lv_lconst (v := 0) hx hb dX7_write_2 (by decide) ?_
  refine lv_ldc2 hx hb hown (hts _ (wU_in _ m_719)) dX7_write_3 ?_
  obtain ⟨r3, h2, hq1, hf⟩ := bnd_ok hf
  refine wk_callSi (As := [.long ((a1).toInt64), .long ((0 : Int64)), .long ((255 : Int64))]) (rest := []) S hK hN hH (C_X7_in l X hI ((a1).toInt64) (0 : Int64) (255 : Int64) _ _ _ hq1) (va_cwS 3 hts (gS wU_in m_720 m_721 m_41 m_722) rfl rfl rfl hdS_X7_in ⟨Nat.le_of_ble_eq_true rfl, Nat.le_of_ble_eq_true rfl⟩) hl.1 rfl rfl (Nat.le_of_ble_eq_true rfl) dX7_write_6 ⟨Nat.zero_le _, Nat.zero_le _⟩ (fun H locs hH => ?_)
  refine lv_if_ne (tgt := 15) hx hb dX7_write_9 (by decide) (fun c4 => ?_) (fun c4 => ?_)
  · replace hf := ite_f c4 hf
    refine lv_aload_n hx hb dX7_write_15 rfl (lv_at hl 0 rfl) ?_
    refine wk_geti (ci := 6) (k := 1) S hK hH j_X7 t0 rfl hq_6_1 (hts _ (wU_in _ m_625)) dX7_write_16 ?_
    refine lv_bipush (v := 60) hx hb dX7_write_19 (by decide) ?_
    refine lv_icmp_ne (tgt := 27) hx hb dX7_write_21 (by decide) (fun c5 => ?_) (fun c5 => ?_)
    · replace hf := ite_f c5 hf
      refine lv_aload_n hx hb dX7_write_27 rfl (lv_at hl 0 rfl) ?_
      refine wk_getr (ci := 6) (k := 0) S hK hH j_X7 t0 rfl hq_6_0 (hts _ (wU_in _ m_624)) dX7_write_28 ?_
      refine lv_aload_n hx hb dX7_write_31 rfl (lv_at hl 0 rfl) ?_
      refine wk_geti (ci := 6) (k := 1) S hK hH j_X7 t0 rfl hq_6_1 (hts _ (wU_in _ m_625)) dX7_write_32 ?_
      refine lv_iload_n hx hb dX7_write_35 rfl (lv_at hl 1 rfl) ?_
      obtain ⟨o6, hf⟩ := ite_ok hf
      refine wk_iast S hK hH (tr_6_0 t0) o6 dX7_write_36 (fun H locs hH => ?_)
      refine lv_aload_n hx hb dX7_write_37 rfl (lv_at hl 0 rfl) ?_
      refine lv_dup hx hb dX7_write_38 rfl ?_
      refine wk_geti (ci := 6) (k := 1) S hK hH j_X7 t0 rfl hq_6_1 (hts _ (wU_in _ m_625)) dX7_write_39 ?_
      refine lv_iconst (v := 1) hx hb dX7_write_42 (by decide) ?_
      refine lv_iadd hx hb dX7_write_43 ?_
      refine wk_puti (ci := 6) (k := 1) S hK hH j_X7 tyX7 tyX7_ok nmX7 t0 rfl hq_6_1 rfl hd_6_1 (hts _ (wU_in _ m_625)) dX7_write_44 (fun H locs hH => ?_)
      refine lv_aload_n hx hb dX7_write_47 rfl (lv_at hl 0 rfl) ?_
      refine wk_geti (ci := 6) (k := 1) S hK hH j_X7 t0 rfl hq_6_1 (hts _ (wU_in _ m_625)) dX7_write_48 ?_
      exact wk_iret S hr hlk hK hN hH hf dX7_write_51
    · replace hf := ite_t c5 hf
      refine lv_bipush (v := (-4)) hx hb dX7_write_24 (by decide) ?_
      exact wk_iret S hr hlk hK hN hH hf dX7_write_26
  · replace hf := ite_t c4 hf
    refine lv_bipush (v := (-2)) hx hb dX7_write_12 (by decide) ?_
    exact wk_iret S hr hlk hK hN hH hf dX7_write_14
set_option maxHeartbeats 4000000 in
set_option maxRecDepth 100000 in
theorem C_X7_wipe (l : Launch) (X : Cx) (hI : Inj X) {a0 : Nat} (t0 : tY a0 = 6) (h : Hp) (r0 : Int32) (h0 : Hp) (hf : f_X7_wipe a0 h = some (r0, h0)) : Mi l X yX7_wipe cX7_wipe 2 (some .int) 0 0 h [.ref (X.2.2.2 a0)] r0 h0 := by
  refine BD_of (own := RX7) hI rfl (by decide) (Nat.le_of_ble_eq_true rfl) ?_
  intro p e s m args below meth c S hr hlk hK hN
  obtain ⟨hx, hb, hml, hown, hts⟩ := id S
  intro H locs ls hl hH
  replace hl : lv_has ls 2 [(0, .ref (X.2.2.2 a0))] := hl
  unfold f_X7_wipe at hf
  refine lv_aload_n hx hb dX7_wipe_0 rfl (lv_at hl 0 rfl) ?_
  refine wk_geti (ci := 6) (k := 1) S hK hH j_X7 t0 rfl hq_6_1 (hts _ (wU_in _ m_625)) dX7_wipe_1 ?_
  refine lv_istore_n (lv' := [(1, .int ((h.1 a0 1))), (0, .ref (X.2.2.2 a0))]) hx hb dX7_wipe_4 rfl hl (by decide) rfl (fun ls hl => ?_)
  refine lv_aload_n hx hb dX7_wipe_5 rfl (lv_at hl 1 rfl) ?_
  refine lv_iconst (v := 0) hx hb dX7_wipe_6 (by decide) ?_
  refine wk_puti (ci := 6) (k := 1) S hK hH j_X7 tyX7 tyX7_ok nmX7 t0 rfl hq_6_1 rfl hd_6_1 (hts _ (wU_in _ m_625)) dX7_wipe_7 (fun H locs hH => ?_)
  refine lv_iload_n hx hb dX7_wipe_10 rfl (lv_at hl 0 rfl) ?_
  exact wk_iret S hr hlk hK hN hH hf dX7_wipe_11
set_option maxHeartbeats 4000000 in
set_option maxRecDepth 100000 in
theorem C_X7_begun (l : Launch) (X : Cx) (hI : Inj X) {a0 : Nat} (t0 : tY a0 = 6) (a1 : Int32) (h : Hp) (r0 : Int32) (h0 : Hp) (hf : f_X7_begun a0 a1 h = some (r0, h0)) : Mi l X yX7_begun cX7_begun 2 (some .int) 0 0 h [.ref (X.2.2.2 a0), .int a1] r0 h0 := by
  refine BD_of (own := RX7) hI rfl (by decide) (Nat.le_of_ble_eq_true rfl) ?_
  intro p e s m args below meth c S hr hlk hK hN
  obtain ⟨hx, hb, hml, hown, hts⟩ := id S
  have B32 : ∀ (h : Hp), g_X7_begun_32 a0 a1 h = some (r0, h0) → BK p l e ({ frames := 0, cells := 0, slots := 0, locals := 0 }) s m args below meth c (MQ below (cQi X r0 h0) args s 0 0 (AD X)) X 2 32 [(0, .ref (X.2.2.2 a0)), (1, .int a1)] [] h := by
    intro h hf H locs ls hl hH
    unfold g_X7_begun_32 at hf
    refine lv_iload_n hx hb dX7_begun_32 rfl (lv_at hl 1 rfl) ?_
    refine lv_bipush (v := 67) hx hb dX7_begun_33 (by decide) ?_
    refine lv_icmp_ne (tgt := 50) hx hb dX7_begun_35 (by decide) (fun c1 => ?_) (fun c1 => ?_)
    · replace hf := ite_f c1 hf
      refine lv_iconst (v := 0) hx hb dX7_begun_50 (by decide) ?_
      exact wk_iret S hr hlk hK hN hH hf dX7_begun_51
    · replace hf := ite_t c1 hf
      refine lv_aload_n hx hb dX7_begun_38 rfl (lv_at hl 0 rfl) ?_
      refine wk_geti (ci := 6) (k := 19) S hK hH j_X7 t0 rfl hq_6_19 (hts _ (wU_in _ m_643)) dX7_begun_39 ?_
      refine lv_iconst (v := 4) hx hb dX7_begun_42 (by decide) ?_
      refine lv_icmp_ge (tgt := 50) hx hb dX7_begun_43 (by decide) (fun c2 => ?_) (fun c2 => ?_)
      · replace hf := ite_t c2 hf
        refine lv_iconst (v := 0) hx hb dX7_begun_50 (by decide) ?_
        exact wk_iret S hr hlk hK hN hH hf dX7_begun_51
      · replace hf := ite_f c2 hf
        refine lv_iconst (v := 3) hx hb dX7_begun_46 (by decide) ?_
        refine lv_goto (tgt := 51) hx hb dX7_begun_47 (by decide) ?_
        exact wk_iret S hr hlk hK hN hH hf dX7_begun_51
  have B16 : ∀ (h : Hp), g_X7_begun_16 a0 a1 h = some (r0, h0) → BK p l e ({ frames := 0, cells := 0, slots := 0, locals := 0 }) s m args below meth c (MQ below (cQi X r0 h0) args s 0 0 (AD X)) X 2 16 [(0, .ref (X.2.2.2 a0)), (1, .int a1)] [] h := by
    intro h hf H locs ls hl hH
    unfold g_X7_begun_16 at hf
    refine lv_iload_n hx hb dX7_begun_16 rfl (lv_at hl 1 rfl) ?_
    refine lv_bipush (v := 69) hx hb dX7_begun_17 (by decide) ?_
    refine lv_icmp_ne (tgt := 32) hx hb dX7_begun_19 (by decide) (fun c3 => ?_) (fun c3 => ?_)
    · replace hf := ite_f c3 hf
      exact B32 _ hf H locs ls (lv_sub hl [0, 1] rfl) hH
    · replace hf := ite_t c3 hf
      refine lv_aload_n hx hb dX7_begun_22 rfl (lv_at hl 0 rfl) ?_
      refine wk_geti (ci := 6) (k := 18) S hK hH j_X7 t0 rfl hq_6_18 (hts _ (wU_in _ m_642)) dX7_begun_23 ?_
      refine lv_iconst (v := 3) hx hb dX7_begun_26 (by decide) ?_
      refine lv_icmp_ge (tgt := 32) hx hb dX7_begun_27 (by decide) (fun c4 => ?_) (fun c4 => ?_)
      · replace hf := ite_t c4 hf
        exact B32 _ hf H locs ls (lv_sub hl [0, 1] rfl) hH
      · replace hf := ite_f c4 hf
        refine lv_iconst (v := 2) hx hb dX7_begun_30 (by decide) ?_
        exact wk_iret S hr hlk hK hN hH hf dX7_begun_31
  intro H locs ls hl hH
  replace hl : lv_has ls 2 [(0, .ref (X.2.2.2 a0)), (1, .int a1)] := hl
  unfold f_X7_begun at hf
  refine lv_iload_n hx hb dX7_begun_0 rfl (lv_at hl 1 rfl) ?_
  refine lv_bipush (v := 82) hx hb dX7_begun_1 (by decide) ?_
  refine lv_icmp_ne (tgt := 16) hx hb dX7_begun_3 (by decide) (fun c5 => ?_) (fun c5 => ?_)
  · replace hf := ite_f c5 hf
    exact B16 _ hf H locs ls (lv_sub hl [0, 1] rfl) hH
  · replace hf := ite_t c5 hf
    refine lv_aload_n hx hb dX7_begun_6 rfl (lv_at hl 0 rfl) ?_
    refine wk_geti (ci := 6) (k := 17) S hK hH j_X7 t0 rfl hq_6_17 (hts _ (wU_in _ m_641)) dX7_begun_7 ?_
    refine lv_iconst (v := 4) hx hb dX7_begun_10 (by decide) ?_
    refine lv_icmp_ge (tgt := 16) hx hb dX7_begun_11 (by decide) (fun c6 => ?_) (fun c6 => ?_)
    · replace hf := ite_t c6 hf
      exact B16 _ hf H locs ls (lv_sub hl [0, 1] rfl) hH
    · replace hf := ite_f c6 hf
      refine lv_iconst (v := 1) hx hb dX7_begun_14 (by decide) ?_
      exact wk_iret S hr hlk hK hN hH hf dX7_begun_15
set_option maxHeartbeats 4000000 in
set_option maxRecDepth 100000 in
theorem C_X7_isLetter (l : Launch) (X : Cx) (hI : Inj X) (a0 : Int32) (h : Hp) (r0 : Int32) (h0 : Hp) (hf : f_X7_isLetter a0 h = some (r0, h0)) : Mi l X yX7_isLetter cX7_isLetter 1 (some .boolean) 1 25 h [.int a0] r0 h0 := by
  refine BD_of (own := RX7) hI rfl (by decide) (Nat.le_of_ble_eq_true rfl) ?_
  intro p e s m args below meth c S hr hlk hK hN
  obtain ⟨hx, hb, hml, hown, hts⟩ := id S
  intro H locs ls hl hH
  replace hl : lv_has ls 1 [(0, .int a0)] := hl
  unfold f_X7_isLetter at hf
  refine lv_iload_n hx hb dX7_isLetter_0 rfl (lv_at hl 0 rfl) ?_
  refine lv_i2l hx hb dX7_isLetter_1 rfl ?_
  refine lv_ldc2 hx hb hown (hts _ (wU_in _ m_759)) dX7_isLetter_2 ?_
  refine lv_ldc2 hx hb hown (hts _ (wU_in _ m_760)) dX7_isLetter_5 ?_
  obtain ⟨r3, h2, hq1, hf⟩ := bnd_ok hf
  refine wk_callSi (As := [.long ((a0).toInt64), .long ((97 : Int64)), .long ((101 : Int64))]) (rest := []) S hK hN hH (C_X7_in l X hI ((a0).toInt64) (97 : Int64) (101 : Int64) _ _ _ hq1) (va_cwS 3 hts (gS wU_in m_720 m_721 m_41 m_722) rfl rfl rfl hdS_X7_in ⟨Nat.le_of_ble_eq_true rfl, Nat.le_of_ble_eq_true rfl⟩) hl.1 rfl rfl (Nat.le_of_ble_eq_true rfl) dX7_isLetter_8 ⟨Nat.zero_le _, Nat.zero_le _⟩ (fun H locs hH => ?_)
  obtain ⟨o4, hf⟩ := ite_ok hf
  exact wk_zret S hr hlk hK hN hH (okZ_nar o4) hf dX7_isLetter_11
set_option maxHeartbeats 4000000 in
set_option maxRecDepth 100000 in
theorem C_X7_signOf (l : Launch) (X : Cx) (hI : Inj X) (a0 : Int32) (a1 : Int32) (h : Hp) (r0 : Int32) (h0 : Hp) (hf : f_X7_signOf a0 a1 h = some (r0, h0)) : Mi l X yX7_signOf cX7_signOf 2 (some .int) 2 45 h [.int a0, .int a1] r0 h0 := by
  refine BD_of (own := RX7) hI rfl (by decide) (Nat.le_of_ble_eq_true rfl) ?_
  intro p e s m args below meth c S hr hlk hK hN
  obtain ⟨hx, hb, hml, hown, hts⟩ := id S
  intro H locs ls hl hH
  replace hl : lv_has ls 2 [(0, .int a0), (1, .int a1)] := hl
  unfold f_X7_signOf at hf
  refine lv_iload_n hx hb dX7_signOf_0 rfl (lv_at hl 0 rfl) ?_
  obtain ⟨r3, h2, hq1, hf⟩ := bnd_ok hf
  refine wk_callSi (As := [.int a0]) (rest := []) S hK hN hH (C_X7_isLetter l X hI a0 _ _ _ hq1) (va_cwS 1 hts (gS wU_in m_756 m_757 m_41 m_758) rfl rfl rfl hdS_X7_isLetter ⟨Nat.le_of_ble_eq_true rfl, Nat.le_of_ble_eq_true rfl⟩) hl.1 rfl rfl (Nat.le_of_ble_eq_true rfl) dX7_signOf_1 ⟨Nat.zero_le _, Nat.zero_le _⟩ (fun H locs hH => ?_)
  refine lv_if_eq (tgt := 12) hx hb dX7_signOf_4 (by decide) (fun c4 => ?_) (fun c4 => ?_)
  · replace hf := ite_t c4 hf
    refine lv_iload_n hx hb dX7_signOf_12 rfl (lv_at hl 1 rfl) ?_
    refine lv_iconst (v := 1) hx hb dX7_signOf_13 (by decide) ?_
    refine lv_icmp_ne (tgt := 30) hx hb dX7_signOf_14 (by decide) (fun c5 => ?_) (fun c5 => ?_)
    · replace hf := ite_f c5 hf
      refine lv_iload_n hx hb dX7_signOf_30 rfl (lv_at hl 1 rfl) ?_
      refine lv_if_ne (tgt := 37) hx hb dX7_signOf_31 (by decide) (fun c6 => ?_) (fun c6 => ?_)
      · replace hf := ite_f c6 hf
        refine lv_iload_n hx hb dX7_signOf_37 rfl (lv_at hl 0 rfl) ?_
        refine lv_bipush (v := 42) hx hb dX7_signOf_38 (by decide) ?_
        refine lv_icmp_ne (tgt := 48) hx hb dX7_signOf_40 (by decide) (fun c7 => ?_) (fun c7 => ?_)
        · replace hf := ite_f c7 hf
          refine lv_iload_n hx hb dX7_signOf_48 rfl (lv_at hl 0 rfl) ?_
          refine lv_bipush (v := 46) hx hb dX7_signOf_49 (by decide) ?_
          refine lv_icmp_ne (tgt := 59) hx hb dX7_signOf_51 (by decide) (fun c8 => ?_) (fun c8 => ?_)
          · replace hf := ite_f c8 hf
            refine lv_bipush (v := (-9)) hx hb dX7_signOf_59 (by decide) ?_
            exact wk_iret S hr hlk hK hN hH hf dX7_signOf_61
          · replace hf := ite_t c8 hf
            refine lv_bipush (v := 7) hx hb dX7_signOf_54 (by decide) ?_
            refine lv_goto (tgt := 61) hx hb dX7_signOf_56 (by decide) ?_
            exact wk_iret S hr hlk hK hN hH hf dX7_signOf_61
        · replace hf := ite_t c7 hf
          refine lv_bipush (v := 6) hx hb dX7_signOf_43 (by decide) ?_
          refine lv_goto (tgt := 61) hx hb dX7_signOf_45 (by decide) ?_
          exact wk_iret S hr hlk hK hN hH hf dX7_signOf_61
      · replace hf := ite_t c6 hf
        refine lv_bipush (v := (-9)) hx hb dX7_signOf_34 (by decide) ?_
        exact wk_iret S hr hlk hK hN hH hf dX7_signOf_36
    · replace hf := ite_t c5 hf
      refine lv_iload_n hx hb dX7_signOf_17 rfl (lv_at hl 0 rfl) ?_
      refine lv_bipush (v := 45) hx hb dX7_signOf_18 (by decide) ?_
      refine lv_icmp_ne (tgt := 27) hx hb dX7_signOf_20 (by decide) (fun c9 => ?_) (fun c9 => ?_)
      · replace hf := ite_f c9 hf
        refine lv_bipush (v := (-9)) hx hb dX7_signOf_27 (by decide) ?_
        exact wk_iret S hr hlk hK hN hH hf dX7_signOf_29
      · replace hf := ite_t c9 hf
        refine lv_iconst (v := 0) hx hb dX7_signOf_23 (by decide) ?_
        refine lv_goto (tgt := 29) hx hb dX7_signOf_24 (by decide) ?_
        exact wk_iret S hr hlk hK hN hH hf dX7_signOf_29
  · replace hf := ite_f c4 hf
    refine lv_iload_n hx hb dX7_signOf_7 rfl (lv_at hl 0 rfl) ?_
    refine lv_bipush (v := 96) hx hb dX7_signOf_8 (by decide) ?_
    refine lv_isub hx hb dX7_signOf_10 ?_
    exact wk_iret S hr hlk hK hN hH hf dX7_signOf_11
set_option maxHeartbeats 4000000 in
set_option maxRecDepth 100000 in
theorem C_X7_mostOf (l : Launch) (X : Cx) (hI : Inj X) (a0 : Int32) (h : Hp) (r0 : Int32) (h0 : Hp) (hf : f_X7_mostOf a0 h = some (r0, h0)) : Mi l X yX7_mostOf cX7_mostOf 1 (some .int) 0 0 h [.int a0] r0 h0 := by
  refine BD_of (own := RX7) hI rfl (by decide) (Nat.le_of_ble_eq_true rfl) ?_
  intro p e s m args below meth c S hr hlk hK hN
  obtain ⟨hx, hb, hml, hown, hts⟩ := id S
  intro H locs ls hl hH
  replace hl : lv_has ls 1 [(0, .int a0)] := hl
  unfold f_X7_mostOf at hf
  refine lv_iload_n hx hb dX7_mostOf_0 rfl (lv_at hl 0 rfl) ?_
  refine lv_iconst (v := 1) hx hb dX7_mostOf_1 (by decide) ?_
  refine lv_icmp_ne (tgt := 9) hx hb dX7_mostOf_2 (by decide) (fun c1 => ?_) (fun c1 => ?_)
  · replace hf := ite_f c1 hf
    refine lv_iload_n hx hb dX7_mostOf_9 rfl (lv_at hl 0 rfl) ?_
    refine lv_iconst (v := 2) hx hb dX7_mostOf_10 (by decide) ?_
    refine lv_icmp_ne (tgt := 18) hx hb dX7_mostOf_11 (by decide) (fun c2 => ?_) (fun c2 => ?_)
    · replace hf := ite_f c2 hf
      refine lv_iload_n hx hb dX7_mostOf_18 rfl (lv_at hl 0 rfl) ?_
      refine lv_iconst (v := 3) hx hb dX7_mostOf_19 (by decide) ?_
      refine lv_icmp_ne (tgt := 27) hx hb dX7_mostOf_20 (by decide) (fun c3 => ?_) (fun c3 => ?_)
      · replace hf := ite_f c3 hf
        refine lv_iconst (v := 0) hx hb dX7_mostOf_27 (by decide) ?_
        exact wk_iret S hr hlk hK hN hH hf dX7_mostOf_28
      · replace hf := ite_t c3 hf
        refine lv_iconst (v := 4) hx hb dX7_mostOf_23 (by decide) ?_
        refine lv_goto (tgt := 28) hx hb dX7_mostOf_24 (by decide) ?_
        exact wk_iret S hr hlk hK hN hH hf dX7_mostOf_28
    · replace hf := ite_t c2 hf
      refine lv_iconst (v := 2) hx hb dX7_mostOf_14 (by decide) ?_
      refine lv_goto (tgt := 28) hx hb dX7_mostOf_15 (by decide) ?_
      exact wk_iret S hr hlk hK hN hH hf dX7_mostOf_28
  · replace hf := ite_t c1 hf
    refine lv_iconst (v := 4) hx hb dX7_mostOf_5 (by decide) ?_
    refine lv_goto (tgt := 28) hx hb dX7_mostOf_6 (by decide) ?_
    exact wk_iret S hr hlk hK hN hH hf dX7_mostOf_28
set_option maxHeartbeats 4000000 in
set_option maxRecDepth 100000 in
theorem C_X7_mayEnd (l : Launch) (X : Cx) (hI : Inj X) (a0 : Int32) (a1 : Int32) (h : Hp) (r0 : Int32) (h0 : Hp) (hf : f_X7_mayEnd a0 a1 h = some (r0, h0)) : Mi l X yX7_mayEnd cX7_mayEnd 2 (some .boolean) 0 0 h [.int a0, .int a1] r0 h0 := by
  refine BD_of (own := RX7) hI rfl (by decide) (Nat.le_of_ble_eq_true rfl) ?_
  intro p e s m args below meth c S hr hlk hK hN
  obtain ⟨hx, hb, hml, hown, hts⟩ := id S
  have B21 : ∀ (h : Hp), g_X7_mayEnd_21 a0 a1 h = some (r0, h0) → BK p l e ({ frames := 0, cells := 0, slots := 0, locals := 0 }) s m args below meth c (MQ below (cQi X r0 h0) args s 0 0 (AD X)) X 2 21 [] [] h := by
    intro h hf H locs ls hl hH
    unfold g_X7_mayEnd_21 at hf
    refine lv_iconst (v := 1) hx hb dX7_mayEnd_21 (by decide) ?_
    refine lv_goto (tgt := 26) hx hb dX7_mayEnd_22 (by decide) ?_
    exact wk_zret S hr hlk hK hN hH rfl hf dX7_mayEnd_26
  intro H locs ls hl hH
  replace hl : lv_has ls 2 [(0, .int a0), (1, .int a1)] := hl
  unfold f_X7_mayEnd at hf
  refine lv_iload_n hx hb dX7_mayEnd_0 rfl (lv_at hl 0 rfl) ?_
  refine lv_if_eq (tgt := 21) hx hb dX7_mayEnd_1 (by decide) (fun c1 => ?_) (fun c1 => ?_)
  · replace hf := ite_t c1 hf
    exact B21 _ hf H locs ls (lv_sub hl [] rfl) hH
  · replace hf := ite_f c1 hf
    refine lv_iload_n hx hb dX7_mayEnd_4 rfl (lv_at hl 0 rfl) ?_
    refine lv_iconst (v := 3) hx hb dX7_mayEnd_5 (by decide) ?_
    refine lv_icmp_ne (tgt := 17) hx hb dX7_mayEnd_6 (by decide) (fun c2 => ?_) (fun c2 => ?_)
    · replace hf := ite_f c2 hf
      refine lv_iload_n hx hb dX7_mayEnd_17 rfl (lv_at hl 1 rfl) ?_
      refine lv_if_le (tgt := 25) hx hb dX7_mayEnd_18 (by decide) (fun c3 => ?_) (fun c3 => ?_)
      · replace hf := ite_t c3 hf
        refine lv_iconst (v := 0) hx hb dX7_mayEnd_25 (by decide) ?_
        exact wk_zret S hr hlk hK hN hH rfl hf dX7_mayEnd_26
      · replace hf := ite_f c3 hf
        exact B21 _ hf H locs ls (lv_sub hl [] rfl) hH
    · replace hf := ite_t c2 hf
      refine lv_iload_n hx hb dX7_mayEnd_9 rfl (lv_at hl 1 rfl) ?_
      refine lv_iconst (v := 4) hx hb dX7_mayEnd_10 (by decide) ?_
      refine lv_icmp_ne (tgt := 25) hx hb dX7_mayEnd_11 (by decide) (fun c4 => ?_) (fun c4 => ?_)
      · replace hf := ite_f c4 hf
        refine lv_iconst (v := 0) hx hb dX7_mayEnd_25 (by decide) ?_
        exact wk_zret S hr hlk hK hN hH rfl hf dX7_mayEnd_26
      · replace hf := ite_t c4 hf
        refine lv_goto (tgt := 21) hx hb dX7_mayEnd_14 (by decide) ?_
        exact B21 _ hf H locs ls (lv_sub hl [] rfl) hH
set_option maxHeartbeats 4000000 in
set_option maxRecDepth 100000 in
theorem C_X7_begin (l : Launch) (X : Cx) (hI : Inj X) {a0 : Nat} (t0 : tY a0 = 6) (a1 : Int32) (h : Hp) (h0 : Hp) (hf : f_X7_begin a0 a1 h = some h0) : Mv l X yX7_begin cX7_begin 2 none 0 0 h [.ref (X.2.2.2 a0), .int a1] h0 := by
  refine BD_of (own := RX7) hI rfl (by decide) (Nat.le_of_ble_eq_true rfl) ?_
  intro p e s m args below meth c S hr hlk hK hN
  obtain ⟨hx, hb, hml, hown, hts⟩ := id S
  intro H locs ls hl hH
  replace hl : lv_has ls 2 [(0, .ref (X.2.2.2 a0)), (1, .int a1)] := hl
  unfold f_X7_begin at hf
  refine lv_aload_n hx hb dX7_begin_0 rfl (lv_at hl 0 rfl) ?_
  refine lv_dup hx hb dX7_begin_1 rfl ?_
  refine wk_geti (ci := 6) (k := 20) S hK hH j_X7 t0 rfl hq_6_20 (hts _ (wU_in _ m_644)) dX7_begin_2 ?_
  refine lv_iconst (v := 1) hx hb dX7_begin_5 (by decide) ?_
  refine lv_iadd hx hb dX7_begin_6 ?_
  refine wk_puti (ci := 6) (k := 20) S hK hH j_X7 tyX7 tyX7_ok nmX7 t0 rfl hq_6_20 rfl hd_6_20 (hts _ (wU_in _ m_644)) dX7_begin_7 (fun H locs hH => ?_)
  refine lv_iload_n hx hb dX7_begin_10 rfl (lv_at hl 1 rfl) ?_
  refine lv_iconst (v := 1) hx hb dX7_begin_11 (by decide) ?_
  refine lv_icmp_ne (tgt := 38) hx hb dX7_begin_12 (by decide) (fun c1 => ?_) (fun c1 => ?_)
  · replace hf := ite_f c1 hf
    refine lv_iload_n hx hb dX7_begin_38 rfl (lv_at hl 1 rfl) ?_
    refine lv_iconst (v := 2) hx hb dX7_begin_39 (by decide) ?_
    refine lv_icmp_ne (tgt := 66) hx hb dX7_begin_40 (by decide) (fun c2 => ?_) (fun c2 => ?_)
    · replace hf := ite_f c2 hf
      refine lv_aload_n hx hb dX7_begin_66 rfl (lv_at hl 0 rfl) ?_
      refine lv_dup hx hb dX7_begin_67 rfl ?_
      refine wk_geti (ci := 6) (k := 19) S hK hH j_X7 t0 rfl hq_6_19 (hts _ (wU_in _ m_643)) dX7_begin_68 ?_
      refine lv_iconst (v := 1) hx hb dX7_begin_71 (by decide) ?_
      refine lv_iadd hx hb dX7_begin_72 ?_
      refine wk_puti (ci := 6) (k := 19) S hK hH j_X7 tyX7 tyX7_ok nmX7 t0 rfl hq_6_19 rfl hd_6_19 (hts _ (wU_in _ m_643)) dX7_begin_73 (fun H locs hH => ?_)
      exact wk_vret S hr hlk hK hN hH hf dX7_begin_76
    · replace hf := ite_t c2 hf
      refine lv_aload_n hx hb dX7_begin_43 rfl (lv_at hl 0 rfl) ?_
      refine wk_getr (ci := 6) (k := 15) S hK hH j_X7 t0 rfl hq_6_15 (hts _ (wU_in _ m_639)) dX7_begin_44 ?_
      refine lv_aload_n hx hb dX7_begin_47 rfl (lv_at hl 0 rfl) ?_
      refine wk_geti (ci := 6) (k := 18) S hK hH j_X7 t0 rfl hq_6_18 (hts _ (wU_in _ m_642)) dX7_begin_48 ?_
      refine lv_iconst (v := 0) hx hb dX7_begin_51 (by decide) ?_
      obtain ⟨o3, hf⟩ := ite_ok hf
      refine wk_iast S hK hH (tr_6_15 t0) o3 dX7_begin_52 (fun H locs hH => ?_)
      refine lv_aload_n hx hb dX7_begin_53 rfl (lv_at hl 0 rfl) ?_
      refine lv_dup hx hb dX7_begin_54 rfl ?_
      refine wk_geti (ci := 6) (k := 18) S hK hH j_X7 t0 rfl hq_6_18 (hts _ (wU_in _ m_642)) dX7_begin_55 ?_
      refine lv_iconst (v := 1) hx hb dX7_begin_58 (by decide) ?_
      refine lv_iadd hx hb dX7_begin_59 ?_
      refine wk_puti (ci := 6) (k := 18) S hK hH j_X7 tyX7 tyX7_ok nmX7 t0 rfl hq_6_18 rfl hd_6_18 (hts _ (wU_in _ m_642)) dX7_begin_60 (fun H locs hH => ?_)
      refine lv_goto (tgt := 76) hx hb dX7_begin_63 (by decide) ?_
      exact wk_vret S hr hlk hK hN hH hf dX7_begin_76
  · replace hf := ite_t c1 hf
    refine lv_aload_n hx hb dX7_begin_15 rfl (lv_at hl 0 rfl) ?_
    refine wk_getr (ci := 6) (k := 14) S hK hH j_X7 t0 rfl hq_6_14 (hts _ (wU_in _ m_638)) dX7_begin_16 ?_
    refine lv_aload_n hx hb dX7_begin_19 rfl (lv_at hl 0 rfl) ?_
    refine wk_geti (ci := 6) (k := 17) S hK hH j_X7 t0 rfl hq_6_17 (hts _ (wU_in _ m_641)) dX7_begin_20 ?_
    refine lv_iconst (v := 0) hx hb dX7_begin_23 (by decide) ?_
    obtain ⟨o4, hf⟩ := ite_ok hf
    refine wk_iast S hK hH (tr_6_14 t0) o4 dX7_begin_24 (fun H locs hH => ?_)
    refine lv_aload_n hx hb dX7_begin_25 rfl (lv_at hl 0 rfl) ?_
    refine lv_dup hx hb dX7_begin_26 rfl ?_
    refine wk_geti (ci := 6) (k := 17) S hK hH j_X7 t0 rfl hq_6_17 (hts _ (wU_in _ m_641)) dX7_begin_27 ?_
    refine lv_iconst (v := 1) hx hb dX7_begin_30 (by decide) ?_
    refine lv_iadd hx hb dX7_begin_31 ?_
    refine wk_puti (ci := 6) (k := 17) S hK hH j_X7 tyX7 tyX7_ok nmX7 t0 rfl hq_6_17 rfl hd_6_17 (hts _ (wU_in _ m_641)) dX7_begin_32 (fun H locs hH => ?_)
    refine lv_goto (tgt := 76) hx hb dX7_begin_35 (by decide) ?_
    exact wk_vret S hr hlk hK hN hH hf dX7_begin_76
