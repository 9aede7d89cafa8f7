set_option maxHeartbeats 4000000 in
set_option maxRecDepth 100000 in
theorem C_X7_fails (l : Launch) (X : Cx) (hI : Inj X) {a0 : Nat} (t0 : tY a0 = 6) (a1 : Int32) (a2 : Int32) (a3 : Int32) (a4 : Int32) (h : Hp) (r0 : Int32) (h0 : Hp) (hf : f_X7_fails a0 a1 a2 a3 a4 h = some (r0, h0)) : Mi l X yX7_fails cX7_fails 10 (some .int) 4 100 h [.ref (X.2.2.2 a0), .int a1, .int a2, .int a3, .int a4] r0 h0 := by
  refine BD_of (own := RX7) hI rfl (by decide) (Nat.le_of_ble_eq_true rfl) ?_
  intro p e s m args below meth c S hr hlk hK hN
  obtain ⟨hx, hb, hml, hown, hts⟩ := id S
  have B127 : ∀ (k53 : Int32 → Int32 → Int32 → Hp → Option (Int32 × Hp)) (hk53 : ∀ (x5 : Int32) (x6 : Int32) (x7 : Int32) (h : Hp), k53 x5 x6 x7 h = some (r0, h0) → BK p l e ({ frames := 4, cells := 0, slots := 0, locals := 100 }) s m args below meth c (MQ below (cQi X r0 h0) args s 0 0 (AD X)) X 10 53 [(0, .ref (X.2.2.2 a0)), (1, .int a1), (2, .int a2), (3, .int a3), (4, .int a4), (5, .int x5), (6, .int x6), (7, .int x7)] [] h) (x5 : Int32) (x7 : Int32) (z0 : Int32) (z1 : Int32) (h : Hp), g_X7_fails_127 a0 a1 a2 a3 a4 k53 x5 x7 z0 z1 h = some (r0, h0) → BK p l e ({ frames := 4, cells := 0, slots := 0, locals := 100 }) s m args below meth c (MQ below (cQi X r0 h0) args s 0 0 (AD X)) X 10 127 [(0, .ref (X.2.2.2 a0)), (1, .int a1), (2, .int a2), (3, .int a3), (4, .int a4), (5, .int x5), (7, .int x7)] [.int z1, .int z0] h := by
    intro k53 hk53 x5 x7 z0 z1 h hf H locs ls hl hH
    unfold g_X7_fails_127 at hf
    refine lv_iadd hx hb dX7_fails_127 ?_
    refine lv_istore (lv' := [(6, .int ((z0 + z1))), (0, .ref (X.2.2.2 a0)), (1, .int a1), (2, .int a2), (3, .int a3), (4, .int a4), (5, .int x5), (7, .int x7)]) hx hb dX7_fails_128 hl (by decide) rfl (fun ls hl => ?_)
    refine lv_iinc (v := (x7 + (1 : Int32))) (lv' := [(7, .int ((x7 + (1 : Int32)))), (6, .int ((z0 + z1))), (0, .ref (X.2.2.2 a0)), (1, .int a1), (2, .int a2), (3, .int a3), (4, .int a4), (5, .int x5)]) hx hb dX7_fails_130 hl (k := 7) rfl rfl (by decide) rfl (fun ls hl => ?_)
    refine lv_goto (tgt := 53) hx hb dX7_fails_133 (by decide) ?_
    exact hk53 _ _ _ _ hf H locs ls (lv_sub hl [2, 3, 4, 5, 6, 7, 1, 0] rfl) hH
  have B93 : ∀ (k53 : Int32 → Int32 → Int32 → Hp → Option (Int32 × Hp)) (hk53 : ∀ (x5 : Int32) (x6 : Int32) (x7 : Int32) (h : Hp), k53 x5 x6 x7 h = some (r0, h0) → BK p l e ({ frames := 4, cells := 0, slots := 0, locals := 100 }) s m args below meth c (MQ below (cQi X r0 h0) args s 0 0 (AD X)) X 10 53 [(0, .ref (X.2.2.2 a0)), (1, .int a1), (2, .int a2), (3, .int a3), (4, .int a4), (5, .int x5), (6, .int x6), (7, .int x7)] [] h) (x5 : Int32) (x6 : Int32) (x7 : Int32) (x8 : Int32) (z0 : Int32) (h : Hp), g_X7_fails_93 a0 a1 a2 a3 a4 k53 x5 x6 x7 x8 z0 h = some (r0, h0) → BK p l e ({ frames := 4, cells := 0, slots := 0, locals := 100 }) s m args below meth c (MQ below (cQi X r0 h0) args s 0 0 (AD X)) X 10 93 [(0, .ref (X.2.2.2 a0)), (1, .int a1), (2, .int a2), (3, .int a3), (4, .int a4), (5, .int x5), (6, .int x6), (7, .int x7), (8, .int x8)] [.int z0] h := by
    intro k53 hk53 x5 x6 x7 x8 z0 h hf H locs ls hl hH
    unfold g_X7_fails_93 at hf
    refine lv_istore (lv' := [(9, .int z0), (0, .ref (X.2.2.2 a0)), (1, .int a1), (2, .int a2), (3, .int a3), (4, .int a4), (5, .int x5), (6, .int x6), (7, .int x7), (8, .int x8)]) hx hb dX7_fails_93 hl (by decide) rfl (fun ls hl => ?_)
    refine lv_iload hx hb dX7_fails_95 (lv_at hl 7 rfl) ?_
    refine lv_iload hx hb dX7_fails_97 (lv_at hl 0 rfl) ?_
    refine lv_if_eq (tgt := 126) hx hb dX7_fails_99 (by decide) (fun c1 => ?_) (fun c1 => ?_)
    · replace hf := ite_t c1 hf
      refine lv_iconst (v := 0) hx hb dX7_fails_126 (by decide) ?_
      exact B127 k53 hk53 _ _ _ _ _ hf H locs ls (lv_sub hl [1, 2, 3, 4, 5, 6, 8] rfl) hH
    · replace hf := ite_f c1 hf
      refine lv_bipush (v := 10) hx hb dX7_fails_102 (by decide) ?_
      refine lv_iload_n hx hb dX7_fails_104 rfl (lv_at hl 4 rfl) ?_
      refine lv_isub hx hb dX7_fails_105 ?_
      refine lv_iload hx hb dX7_fails_106 (lv_at hl 9 rfl) ?_
      obtain ⟨r4, h3, hq2, hf⟩ := bnd_ok hf
      refine wk_callSi (As := [.int (((10 : Int32) - a3)), .int x8]) (rest := [.int x6]) S hK hN hH (C_X7_power l X hI ((10 : Int32) - a3) x8 _ _ _ hq2) (va_cwS 2 hts (gS wU_in m_787 m_788 m_41 m_789) rfl rfl rfl hdS_X7_power ⟨Nat.le_of_ble_eq_true rfl, Nat.le_of_ble_eq_true rfl⟩) hl.1 rfl rfl (Nat.le_of_ble_eq_true rfl) dX7_fails_108 ⟨Nat.zero_le _, Nat.zero_le _⟩ (fun H locs hH => ?_)
      refine lv_iload_n hx hb dX7_fails_111 rfl (lv_at hl 4 rfl) ?_
      refine lv_aload_n hx hb dX7_fails_112 rfl (lv_at hl 1 rfl) ?_
      refine wk_geti (ci := 6) (k := 13) S hK hH j_X7 t0 rfl hq_6_13 (hts _ (wU_in _ m_637)) dX7_fails_113 ?_
      refine lv_iload hx hb dX7_fails_116 (lv_at hl 9 rfl) ?_
      refine lv_isub hx hb dX7_fails_118 ?_
      obtain ⟨r7, h6, hq5, hf⟩ := bnd_ok hf
      refine wk_callSi (As := [.int a3, .int (((h3.1 a0 13) - x8))]) (rest := [.int r4, .int x6]) S hK hN hH (C_X7_power l X hI a3 ((h3.1 a0 13) - x8) _ _ _ hq5) (va_cwS 2 hts (gS wU_in m_787 m_788 m_41 m_789) rfl rfl rfl hdS_X7_power ⟨Nat.le_of_ble_eq_true rfl, Nat.le_of_ble_eq_true rfl⟩) hl.1 rfl rfl (Nat.le_of_ble_eq_true rfl) dX7_fails_119 ⟨Nat.zero_le _, Nat.zero_le _⟩ (fun H locs hH => ?_)
      refine lv_imul hx hb dX7_fails_122 ?_
      refine lv_goto (tgt := 127) hx hb dX7_fails_123 (by decide) ?_
      exact B127 k53 hk53 _ _ _ _ _ hf H locs ls (lv_sub hl [1, 2, 3, 4, 5, 6, 8] rfl) hH
  have B53 : ∀ (k53 : Int32 → Int32 → Int32 → Hp → Option (Int32 × Hp)) (hk53 : ∀ (x5 : Int32) (x6 : Int32) (x7 : Int32) (h : Hp), k53 x5 x6 x7 h = some (r0, h0) → BK p l e ({ frames := 4, cells := 0, slots := 0, locals := 100 }) s m args below meth c (MQ below (cQi X r0 h0) args s 0 0 (AD X)) X 10 53 [(0, .ref (X.2.2.2 a0)), (1, .int a1), (2, .int a2), (3, .int a3), (4, .int a4), (5, .int x5), (6, .int x6), (7, .int x7)] [] h) (x5 : Int32) (x6 : Int32) (x7 : Int32) (h : Hp), g_X7_fails_53 a0 a1 a2 a3 a4 k53 x5 x6 x7 h = some (r0, h0) → BK p l e ({ frames := 4, cells := 0, slots := 0, locals := 100 }) s m args below meth c (MQ below (cQi X r0 h0) args s 0 0 (AD X)) X 10 53 [(0, .ref (X.2.2.2 a0)), (1, .int a1), (2, .int a2), (3, .int a3), (4, .int a4), (5, .int x5), (6, .int x6), (7, .int x7)] [] h := by
    intro k53 hk53 x5 x6 x7 h hf H locs ls hl hH
    unfold g_X7_fails_53 at hf
    refine lv_iload hx hb dX7_fails_53 (lv_at hl 7 rfl) ?_
    refine lv_iconst (v := 1) hx hb dX7_fails_55 (by decide) ?_
    refine lv_aload_n hx hb dX7_fails_56 rfl (lv_at hl 0 rfl) ?_
    refine wk_geti (ci := 6) (k := 13) S hK hH j_X7 t0 rfl hq_6_13 (hts _ (wU_in _ m_637)) dX7_fails_57 ?_
    refine lv_ishl hx hb dX7_fails_60 ?_
    refine lv_icmp_ge (tgt := 136) hx hb dX7_fails_61 (by decide) (fun c8 => ?_) (fun c8 => ?_)
    · replace hf := ite_t c8 hf
      refine lv_iload hx hb dX7_fails_136 (lv_at hl 6 rfl) ?_
      refine lv_bipush (v := 10) hx hb dX7_fails_138 (by decide) ?_
      refine lv_aload_n hx hb dX7_fails_140 rfl (lv_at hl 0 rfl) ?_
      refine wk_geti (ci := 6) (k := 13) S hK hH j_X7 t0 rfl hq_6_13 (hts _ (wU_in _ m_637)) dX7_fails_141 ?_
      obtain ⟨r11, h10, hq9, hf⟩ := bnd_ok hf
      refine wk_callSi (As := [.int ((10 : Int32)), .int ((h.1 a0 13))]) (rest := [.int x6]) S hK hN hH (C_X7_power l X hI (10 : Int32) (h.1 a0 13) _ _ _ hq9) (va_cwS 2 hts (gS wU_in m_787 m_788 m_41 m_789) rfl rfl rfl hdS_X7_power ⟨Nat.le_of_ble_eq_true rfl, Nat.le_of_ble_eq_true rfl⟩) hl.1 rfl rfl (Nat.le_of_ble_eq_true rfl) dX7_fails_144 ⟨Nat.zero_le _, Nat.zero_le _⟩ (fun H locs hH => ?_)
      refine lv_iload hx hb dX7_fails_147 (lv_at hl 4 rfl) ?_
      obtain ⟨r14, h13, hq12, hf⟩ := bnd_ok hf
      refine wk_callSi (As := [.int x6, .int r11, .int a4]) (rest := []) S hK hN hH (C_X7_fraction l X hI x6 r11 a4 _ _ _ hq12) (va_cwS 3 hts (gS wU_in m_936 m_937 m_41 m_938) rfl rfl rfl hdS_X7_fraction ⟨Nat.le_of_ble_eq_true rfl, Nat.le_of_ble_eq_true rfl⟩) hl.1 rfl rfl (Nat.le_of_ble_eq_true rfl) dX7_fails_149 ⟨Nat.zero_le _, Nat.zero_le _⟩ (fun H locs hH => ?_)
      exact wk_iret S hr hlk hK hN hH hf dX7_fails_152
    · replace hf := ite_f c8 hf
      refine lv_iload hx hb dX7_fails_64 (lv_at hl 7 rfl) ?_
      obtain ⟨r17, h16, hq15, hf⟩ := bnd_ok hf
      refine wk_callSi (As := [.int x7]) (rest := []) S hK hN hH (C_X7_ones l X hI x7 _ _ _ hq15) (va_cwS 1 hts (gS wU_in m_966 m_967 m_41 m_968) rfl rfl rfl hdS_X7_ones ⟨Nat.le_of_ble_eq_true rfl, Nat.le_of_ble_eq_true rfl⟩) hl.1 rfl rfl (Nat.le_of_ble_eq_true rfl) dX7_fails_66 ⟨Nat.zero_le _, Nat.zero_le _⟩ (fun H locs hH => ?_)
      refine lv_istore (lv' := [(8, .int r17), (0, .ref (X.2.2.2 a0)), (1, .int a1), (2, .int a2), (3, .int a3), (4, .int a4), (5, .int x5), (6, .int x6), (7, .int x7)]) hx hb dX7_fails_69 hl (by decide) rfl (fun ls hl => ?_)
      refine lv_aload_n hx hb dX7_fails_71 rfl (lv_at hl 1 rfl) ?_
      refine lv_aload_n hx hb dX7_fails_72 rfl (lv_at hl 1 rfl) ?_
      refine wk_getr (ci := 6) (k := 2) S hK hH j_X7 t0 rfl hq_6_2 (hts _ (wU_in _ m_626)) dX7_fails_73 ?_
      refine lv_iload_n hx hb dX7_fails_76 rfl (lv_at hl 2 rfl) ?_
      refine lv_iload_n hx hb dX7_fails_77 rfl (lv_at hl 3 rfl) ?_
      refine lv_iload hx hb dX7_fails_78 (lv_at hl 8 rfl) ?_
      obtain ⟨r20, h19, hq18, hf⟩ := bnd_ok hf
      refine wk_callVi (ci := 6) (b := a0) (As := [.ref (X.2.2.2 (rF a0 2)), .int a1, .int a2, .int x7]) (rest := []) S hK hN hH t0 (by decide) rfl (C_X7_madeBy l X hI t0 (tr_6_2 t0) a1 a2 x7 _ _ _ hq18) (cwV 4 hts (gV wU_in m_773 m_775 m_18 m_41 m_776) rfl rfl rfl hdV_X7_madeBy ⟨Nat.le_of_ble_eq_true rfl, Nat.le_of_ble_eq_true rfl⟩) hl.1 rfl rfl (Nat.le_of_ble_eq_true rfl) dX7_fails_80 ⟨Nat.zero_le _, Nat.zero_le _⟩ (fun H locs hH => ?_)
      refine lv_iload hx hb dX7_fails_83 (lv_at hl 6 rfl) ?_
      refine lv_icmp_ne (tgt := 92) hx hb dX7_fails_85 (by decide) (fun c21 => ?_) (fun c21 => ?_)
      · replace hf := ite_f c21 hf
        refine lv_iconst (v := 0) hx hb dX7_fails_92 (by decide) ?_
        exact B93 k53 hk53 _ _ _ _ _ _ hf H locs ls (lv_sub hl [1, 2, 3, 4, 5, 6, 7, 8, 0] rfl) hH
      · replace hf := ite_t c21 hf
        refine lv_iconst (v := 1) hx hb dX7_fails_88 (by decide) ?_
        refine lv_goto (tgt := 93) hx hb dX7_fails_89 (by decide) ?_
        exact B93 k53 hk53 _ _ _ _ _ _ hf H locs ls (lv_sub hl [1, 2, 3, 4, 5, 6, 7, 8, 0] rfl) hH
  have BL53 : ∀ (n : Nat) (x5 : Int32) (x6 : Int32) (x7 : Int32) (h : Hp), f_X7_fails_53 a0 a1 a2 a3 a4 n x5 x6 x7 h = some (r0, h0) → BK p l e ({ frames := 4, cells := 0, slots := 0, locals := 100 }) s m args below meth c (MQ below (cQi X r0 h0) args s 0 0 (AD X)) X 10 53 [(0, .ref (X.2.2.2 a0)), (1, .int a1), (2, .int a2), (3, .int a3), (4, .int a4), (5, .int x5), (6, .int x6), (7, .int x7)] [] h := by
    intro n
    induction n with
    | zero => intro x5 x6 x7 h hf; cases hf
    | succ n ih => intro x5 x6 x7 h hf; exact B53 _ ih _ _ _ _ hf
  intro H locs ls hl hH
  replace hl : lv_has ls 10 [(0, .ref (X.2.2.2 a0)), (1, .int a1), (2, .int a2), (3, .int a3), (4, .int a4)] := hl
  unfold f_X7_fails at hf
  refine lv_aload_n hx hb dX7_fails_0 rfl (lv_at hl 0 rfl) ?_
  refine lv_iload_n hx hb dX7_fails_1 rfl (lv_at hl 1 rfl) ?_
  obtain ⟨r24, h23, hq22, hf⟩ := bnd_ok hf
  refine wk_callVi (ci := 6) (b := a0) (As := [.int a1]) (rest := []) S hK hN hH t0 (by decide) rfl (C_X7_isRoot l X hI t0 a1 _ _ _ hq22) (cwV 1 hts (gV wU_in m_818 m_820 m_23 m_41 m_821) rfl rfl rfl hdV_X7_isRoot ⟨Nat.le_of_ble_eq_true rfl, Nat.le_of_ble_eq_true rfl⟩) hl.1 rfl rfl (Nat.le_of_ble_eq_true rfl) dX7_fails_2 ⟨Nat.zero_le _, Nat.zero_le _⟩ (fun H locs hH => ?_)
  refine lv_if_eq (tgt := 16) hx hb dX7_fails_5 (by decide) (fun c25 => ?_) (fun c25 => ?_)
  · replace hf := ite_t c25 hf
    refine lv_iconst (v := (-1)) hx hb dX7_fails_16 (by decide) ?_
    exact wk_iret S hr hlk hK hN hH hf dX7_fails_17
  · replace hf := ite_f c25 hf
    refine lv_aload_n hx hb dX7_fails_8 rfl (lv_at hl 0 rfl) ?_
    refine lv_iload_n hx hb dX7_fails_9 rfl (lv_at hl 2 rfl) ?_
    obtain ⟨r28, h27, hq26, hf⟩ := bnd_ok hf
    refine wk_callVi (ci := 6) (b := a0) (As := [.int a2]) (rest := []) S hK hN hH t0 (by decide) rfl (C_X7_isEnding l X hI t0 a2 _ _ _ hq26) (cwV 1 hts (gV wU_in m_822 m_824 m_24 m_41 m_825) rfl rfl rfl hdV_X7_isEnding ⟨Nat.le_of_ble_eq_true rfl, Nat.le_of_ble_eq_true rfl⟩) hl.1 rfl rfl (Nat.le_of_ble_eq_true rfl) dX7_fails_10 ⟨Nat.zero_le _, Nat.zero_le _⟩ (fun H locs hH => ?_)
    refine lv_if_ne (tgt := 18) hx hb dX7_fails_13 (by decide) (fun c29 => ?_) (fun c29 => ?_)
    · replace hf := ite_f c29 hf
      refine lv_iload_n hx hb dX7_fails_18 rfl (lv_at hl 3 rfl) ?_
      refine lv_i2l hx hb dX7_fails_19 rfl ?_
      refine lv_lconst (v := 0) hx hb dX7_fails_20 (by decide) ?_
      refine lv_ldc2 hx hb hown (hts _ (wU_in _ m_965)) dX7_fails_21 ?_
      obtain ⟨r32, h31, hq30, hf⟩ := bnd_ok hf
      refine wk_callSi (As := [.long ((a3).toInt64), .long ((0 : Int64)), .long ((10 : Int64))]) (rest := []) S hK hN hH (C_X7_in l X hI ((a3).toInt64) (0 : Int64) (10 : Int64) _ _ _ hq30) (va_cwS 3 hts (gS wU_in m_720 m_721 m_41 m_722) rfl rfl rfl hdS_X7_in ⟨Nat.le_of_ble_eq_true rfl, Nat.le_of_ble_eq_true rfl⟩) hl.1 rfl rfl (Nat.le_of_ble_eq_true rfl) dX7_fails_24 ⟨Nat.zero_le _, Nat.zero_le _⟩ (fun H locs hH => ?_)
      refine lv_if_ne (tgt := 33) hx hb dX7_fails_27 (by decide) (fun c33 => ?_) (fun c33 => ?_)
      · replace hf := ite_f c33 hf
        refine lv_aload_n hx hb dX7_fails_33 rfl (lv_at hl 0 rfl) ?_
        refine lv_aload_n hx hb dX7_fails_34 rfl (lv_at hl 0 rfl) ?_
        refine wk_getr (ci := 6) (k := 2) S hK hH j_X7 t0 rfl hq_6_2 (hts _ (wU_in _ m_626)) dX7_fails_35 ?_
        refine lv_iload_n hx hb dX7_fails_38 rfl (lv_at hl 1 rfl) ?_
        refine lv_iload_n hx hb dX7_fails_39 rfl (lv_at hl 2 rfl) ?_
        refine lv_bipush (v := 15) hx hb dX7_fails_40 (by decide) ?_
        obtain ⟨r36, h35, hq34, hf⟩ := bnd_ok hf
        refine wk_callVi (ci := 6) (b := a0) (As := [.ref (X.2.2.2 (rF a0 2)), .int a1, .int a2, .int ((15 : Int32))]) (rest := []) S hK hN hH t0 (by decide) rfl (C_X7_madeBy l X hI t0 (tr_6_2 t0) a1 a2 (15 : Int32) _ _ _ hq34) (cwV 4 hts (gV wU_in m_773 m_775 m_18 m_41 m_776) rfl rfl rfl hdV_X7_madeBy ⟨Nat.le_of_ble_eq_true rfl, Nat.le_of_ble_eq_true rfl⟩) hl.1 rfl rfl (Nat.le_of_ble_eq_true rfl) dX7_fails_42 ⟨Nat.zero_le _, Nat.zero_le _⟩ (fun H locs hH => ?_)
        refine lv_istore (lv' := [(5, .int r36), (0, .ref (X.2.2.2 a0)), (1, .int a1), (2, .int a2), (3, .int a3), (4, .int a4)]) hx hb dX7_fails_45 hl (by decide) rfl (fun ls hl => ?_)
        refine lv_iconst (v := 0) hx hb dX7_fails_47 (by decide) ?_
        refine lv_istore (lv' := [(6, .int ((0 : Int32))), (5, .int r36), (0, .ref (X.2.2.2 a0)), (1, .int a1), (2, .int a2), (3, .int a3), (4, .int a4)]) hx hb dX7_fails_48 hl (by decide) rfl (fun ls hl => ?_)
        refine lv_iconst (v := 0) hx hb dX7_fails_50 (by decide) ?_
        refine lv_istore (lv' := [(7, .int ((0 : Int32))), (6, .int ((0 : Int32))), (5, .int r36), (0, .ref (X.2.2.2 a0)), (1, .int a1), (2, .int a2), (3, .int a3), (4, .int a4)]) hx hb dX7_fails_51 hl (by decide) rfl (fun ls hl => ?_)
        exact BL53 FU _ _ _ _ hf H locs ls (lv_sub hl [3, 4, 5, 6, 7, 2, 1, 0] rfl) hH
      · replace hf := ite_t c33 hf
        refine lv_bipush (v := (-2)) hx hb dX7_fails_30 (by decide) ?_
        exact wk_iret S hr hlk hK hN hH hf dX7_fails_32
    · replace hf := ite_t c29 hf
      refine lv_iconst (v := (-1)) hx hb dX7_fails_16 (by decide) ?_
      exact wk_iret S hr hlk hK hN hH hf dX7_fails_17
set_option maxHeartbeats 4000000 in
set_option maxRecDepth 100000 in
theorem C_X7_seed (l : Launch) (X : Cx) (hI : Inj X) {a0 : Nat} (t0 : tY a0 = 6) (a1 : Int64) (h : Hp) (r0 : Int64) (h0 : Hp) (hf : f_X7_seed a0 a1 h = some (r0, h0)) : Ml l X yX7_seed cX7_seed 5 (some .long) 0 0 h [.ref (X.2.2.2 a0), .long a1] r0 h0 := by
  refine BD_of (own := RX7) hI rfl (by decide) (Nat.le_of_ble_eq_true rfl) ?_
  intro p e s m args below meth c S hr hlk hK hN
  obtain ⟨hx, hb, hml, hown, hts⟩ := id S
  intro H locs ls hl hH
  replace hl : lv_has ls 5 [(0, .ref (X.2.2.2 a0)), (1, .long a1)] := hl
  unfold f_X7_seed at hf
  refine lv_aload_n hx hb dX7_seed_0 rfl (lv_at hl 0 rfl) ?_
  refine wk_getl (ci := 6) (k := 27) S hK hH j_X7 t0 rfl hq_6_27 (hts _ (wU_in _ m_651)) dX7_seed_1 ?_
  refine lv_lstore_n (lv' := [(3, .long ((h.2 a0))), (0, .ref (X.2.2.2 a0)), (1, .long a1)]) hx hb dX7_seed_4 rfl hl (by decide) rfl (fun ls hl => ?_)
  refine lv_aload_n hx hb dX7_seed_5 rfl (lv_at hl 1 rfl) ?_
  refine lv_lload_n hx hb dX7_seed_6 rfl (lv_at hl 2 rfl) ?_
  refine wk_putl (ci := 6) (k := 27) S hK hH j_X7 tyX7 tyX7_ok nmX7 t0 rfl hq_6_27l rfl hd_6_27 (hts _ (wU_in _ m_651)) dX7_seed_7 (fun H locs hH => ?_)
  refine lv_lload_n hx hb dX7_seed_10 rfl (lv_at hl 0 rfl) ?_
  exact wk_lret S hr hlk hK hN hH hf dX7_seed_11
set_option maxHeartbeats 4000000 in
set_option maxRecDepth 100000 in
theorem C_X7_drawn (l : Launch) (X : Cx) (hI : Inj X) {a0 : Nat} (t0 : tY a0 = 6) (a1 : Int32) (h : Hp) (r0 : Int32) (h0 : Hp) (hf : f_X7_drawn a0 a1 h = some (r0, h0)) : Mi l X yX7_drawn cX7_drawn 8 (some .int) 3 76 h [.ref (X.2.2.2 a0), .int a1] r0 h0 := by
  refine BD_of (own := RX7) hI rfl (by decide) (Nat.le_of_ble_eq_true rfl) ?_
  intro p e s m args below meth c S hr hlk hK hN
  obtain ⟨hx, hb, hml, hown, hts⟩ := id S
  have B55 : ∀ (k19 : Int32 → Int32 → Hp → Option (Int32 × Hp)) (hk19 : ∀ (x2 : Int32) (x3 : Int32) (h : Hp), k19 x2 x3 h = some (r0, h0) → BK p l e ({ frames := 3, cells := 0, slots := 0, locals := 76 }) s m args below meth c (MQ below (cQi X r0 h0) args s 0 0 (AD X)) X 8 19 [(0, .ref (X.2.2.2 a0)), (1, .int a1), (2, .int x2), (3, .int x3)] [] h) (k55 : Int32 → Int32 → Int64 → Int32 → Int32 → Hp → Option (Int32 × Hp)) (hk55 : ∀ (x2 : Int32) (x3 : Int32) (x4 : Int64) (x6 : Int32) (x7 : Int32) (h : Hp), k55 x2 x3 x4 x6 x7 h = some (r0, h0) → BK p l e ({ frames := 3, cells := 0, slots := 0, locals := 76 }) s m args below meth c (MQ below (cQi X r0 h0) args s 0 0 (AD X)) X 8 55 [(0, .ref (X.2.2.2 a0)), (1, .int a1), (2, .int x2), (3, .int x3), (4, .long x4), (6, .int x6), (7, .int x7)] [] h) (x2 : Int32) (x3 : Int32) (x4 : Int64) (x6 : Int32) (x7 : Int32) (h : Hp), g_X7_drawn_55 a0 a1 k19 k55 x2 x3 x4 x6 x7 h = some (r0, h0) → BK p l e ({ frames := 3, cells := 0, slots := 0, locals := 76 }) s m args below meth c (MQ below (cQi X r0 h0) args s 0 0 (AD X)) X 8 55 [(0, .ref (X.2.2.2 a0)), (1, .int a1), (2, .int x2), (3, .int x3), (4, .long x4), (6, .int x6), (7, .int x7)] [] h := by
    intro k19 hk19 k55 hk55 x2 x3 x4 x6 x7 h hf H locs ls hl hH
    unfold g_X7_drawn_55 at hf
    refine lv_iload hx hb dX7_drawn_55 (lv_at hl 6 rfl) ?_
    refine lv_iconst (v := 4) hx hb dX7_drawn_57 (by decide) ?_
    refine lv_icmp_ge (tgt := 89) hx hb dX7_drawn_58 (by decide) (fun c1 => ?_) (fun c1 => ?_)
    · replace hf := ite_t c1 hf
      refine lv_iload_n hx hb dX7_drawn_89 rfl (lv_at hl 2 rfl) ?_
      refine lv_aload_n hx hb dX7_drawn_90 rfl (lv_at hl 0 rfl) ?_
      refine wk_getr (ci := 6) (k := 2) S hK hH j_X7 t0 rfl hq_6_2 (hts _ (wU_in _ m_626)) dX7_drawn_91 ?_
      refine lv_iload hx hb dX7_drawn_94 (lv_at hl 5 rfl) ?_
      refine lv_aload_n hx hb dX7_drawn_96 rfl (lv_at hl 0 rfl) ?_
      refine wk_geti (ci := 6) (k := 13) S hK hH j_X7 t0 rfl hq_6_13 (hts _ (wU_in _ m_637)) dX7_drawn_97 ?_
      refine lv_bipush (v := 15) hx hb dX7_drawn_100 (by decide) ?_
      obtain ⟨r4, h3, hq2, hf⟩ := bnd_ok hf
      refine wk_callSi (As := [.ref (X.2.2.2 (rF a0 2)), .int x6, .int ((h.1 a0 13)), .int ((15 : Int32))]) (rest := [.int x2]) S hK hN hH (C_X7_behindAll l X hI (tr_6_2 t0) x6 (h.1 a0 13) (15 : Int32) _ _ _ hq2) (va_cwS 4 hts (gS wU_in m_790 m_791 m_41 m_792) rfl rfl rfl hdS_X7_behindAll ⟨Nat.le_of_ble_eq_true rfl, Nat.le_of_ble_eq_true rfl⟩) hl.1 rfl rfl (Nat.le_of_ble_eq_true rfl) dX7_drawn_102 ⟨Nat.zero_le _, Nat.zero_le _⟩ (fun H locs hH => ?_)
      obtain ⟨r7, h6, hq5, hf⟩ := bnd_ok hf
      refine wk_callSi (As := [.int r4]) (rest := [.int x2]) S hK hN hH (C_X7_size l X hI r4 _ _ _ hq5) (va_cwS 1 hts (gS wU_in m_784 m_785 m_41 m_786) rfl rfl rfl hdS_X7_size ⟨Nat.le_of_ble_eq_true rfl, Nat.le_of_ble_eq_true rfl⟩) hl.1 rfl rfl (Nat.le_of_ble_eq_true rfl) dX7_drawn_105 ⟨Nat.zero_le _, Nat.zero_le _⟩ (fun H locs hH => ?_)
      refine lv_iadd hx hb dX7_drawn_108 ?_
      refine lv_istore_n (lv' := [(2, .int ((x2 + r7))), (0, .ref (X.2.2.2 a0)), (1, .int a1), (3, .int x3), (4, .long x4), (6, .int x6), (7, .int x7)]) hx hb dX7_drawn_109 rfl hl (by decide) rfl (fun ls hl => ?_)
      refine lv_iinc (v := (x3 + (1 : Int32))) (lv' := [(3, .int ((x3 + (1 : Int32)))), (2, .int ((x2 + r7))), (0, .ref (X.2.2.2 a0)), (1, .int a1), (4, .long x4), (6, .int x6), (7, .int x7)]) hx hb dX7_drawn_110 hl (k := 3) rfl rfl (by decide) rfl (fun ls hl => ?_)
      refine lv_goto (tgt := 19) hx hb dX7_drawn_113 (by decide) ?_
      exact hk19 _ _ _ hf H locs ls (lv_sub hl [2, 3, 1, 0] rfl) hH
    · replace hf := ite_f c1 hf
      refine lv_bipush (v := 10) hx hb dX7_drawn_61 (by decide) ?_
      refine lv_iload hx hb dX7_drawn_63 (lv_at hl 5 rfl) ?_
      refine lv_imul hx hb dX7_drawn_65 ?_
      refine lv_lload hx hb dX7_drawn_66 (lv_at hl 4 rfl) ?_
      refine lv_iconst (v := 3) hx hb dX7_drawn_68 (by decide) ?_
      refine lv_iload hx hb dX7_drawn_69 (lv_at hl 6 rfl) ?_
      refine lv_imul hx hb dX7_drawn_71 ?_
      refine lv_lshr (v := (x4) >>> ((((3 : Int32) * x7)).toInt64 &&& 63)) hx hb dX7_drawn_72 rfl ?_
      refine lv_ldc2 hx hb hown (hts _ (wU_in _ m_855)) dX7_drawn_73 ?_
      refine lv_lrem hx hb dX7_drawn_76 (by decide) ?_
      refine lv_l2i hx hb dX7_drawn_77 rfl ?_
      refine lv_iadd hx hb dX7_drawn_78 ?_
      refine lv_iconst (v := 1) hx hb dX7_drawn_79 (by decide) ?_
      refine lv_iadd hx hb dX7_drawn_80 ?_
      refine lv_istore (lv' := [(6, .int (((((10 : Int32) * x6) + (((((x4) >>> ((((3 : Int32) * x7)).toInt64 &&& 63)) - ((x4) >>> ((((3 : Int32) * x7)).toInt64 &&& 63)) / (5 : Int64) * (5 : Int64))).toInt32)) + (1 : Int32)))), (0, .ref (X.2.2.2 a0)), (1, .int a1), (2, .int x2), (3, .int x3), (4, .long x4), (7, .int x7)]) hx hb dX7_drawn_81 hl (by decide) rfl (fun ls hl => ?_)
      refine lv_iinc (v := (x7 + (1 : Int32))) (lv' := [(7, .int ((x7 + (1 : Int32)))), (6, .int (((((10 : Int32) * x6) + (((((x4) >>> ((((3 : Int32) * x7)).toInt64 &&& 63)) - ((x4) >>> ((((3 : Int32) * x7)).toInt64 &&& 63)) / (5 : Int64) * (5 : Int64))).toInt32)) + (1 : Int32)))), (0, .ref (X.2.2.2 a0)), (1, .int a1), (2, .int x2), (3, .int x3), (4, .long x4)]) hx hb dX7_drawn_83 hl (k := 6) rfl rfl (by decide) rfl (fun ls hl => ?_)
      refine lv_goto (tgt := 55) hx hb dX7_drawn_86 (by decide) ?_
      exact hk55 _ _ _ _ _ _ hf H locs ls (lv_sub hl [2, 3, 4, 5, 6, 1, 0] rfl) hH
  have BL55 : ∀ (k19 : Int32 → Int32 → Hp → Option (Int32 × Hp)) (hk19 : ∀ (x2 : Int32) (x3 : Int32) (h : Hp), k19 x2 x3 h = some (r0, h0) → BK p l e ({ frames := 3, cells := 0, slots := 0, locals := 76 }) s m args below meth c (MQ below (cQi X r0 h0) args s 0 0 (AD X)) X 8 19 [(0, .ref (X.2.2.2 a0)), (1, .int a1), (2, .int x2), (3, .int x3)] [] h) (n : Nat) (x2 : Int32) (x3 : Int32) (x4 : Int64) (x6 : Int32) (x7 : Int32) (h : Hp), f_X7_drawn_55 a0 a1 k19 n x2 x3 x4 x6 x7 h = some (r0, h0) → BK p l e ({ frames := 3, cells := 0, slots := 0, locals := 76 }) s m args below meth c (MQ below (cQi X r0 h0) args s 0 0 (AD X)) X 8 55 [(0, .ref (X.2.2.2 a0)), (1, .int a1), (2, .int x2), (3, .int x3), (4, .long x4), (6, .int x6), (7, .int x7)] [] h := by
    intro k19 hk19 n
    induction n with
    | zero => intro x2 x3 x4 x6 x7 h hf; cases hf
    | succ n ih => intro x2 x3 x4 x6 x7 h hf; exact B55 k19 hk19 _ ih _ _ _ _ _ _ hf
  have B19 : ∀ (k19 : Int32 → Int32 → Hp → Option (Int32 × Hp)) (hk19 : ∀ (x2 : Int32) (x3 : Int32) (h : Hp), k19 x2 x3 h = some (r0, h0) → BK p l e ({ frames := 3, cells := 0, slots := 0, locals := 76 }) s m args below meth c (MQ below (cQi X r0 h0) args s 0 0 (AD X)) X 8 19 [(0, .ref (X.2.2.2 a0)), (1, .int a1), (2, .int x2), (3, .int x3)] [] h) (x2 : Int32) (x3 : Int32) (h : Hp), g_X7_drawn_19 a0 a1 k19 x2 x3 h = some (r0, h0) → BK p l e ({ frames := 3, cells := 0, slots := 0, locals := 76 }) s m args below meth c (MQ below (cQi X r0 h0) args s 0 0 (AD X)) X 8 19 [(0, .ref (X.2.2.2 a0)), (1, .int a1), (2, .int x2), (3, .int x3)] [] h := by
    intro k19 hk19 x2 x3 h hf H locs ls hl hH
    unfold g_X7_drawn_19 at hf
    refine lv_iload_n hx hb dX7_drawn_19 rfl (lv_at hl 3 rfl) ?_
    refine lv_iload_n hx hb dX7_drawn_20 rfl (lv_at hl 1 rfl) ?_
    refine lv_icmp_ge (tgt := 116) hx hb dX7_drawn_21 (by decide) (fun c8 => ?_) (fun c8 => ?_)
    · replace hf := ite_t c8 hf
      refine lv_iload_n hx hb dX7_drawn_116 rfl (lv_at hl 2 rfl) ?_
      exact wk_iret S hr hlk hK hN hH hf dX7_drawn_117
    · replace hf := ite_f c8 hf
      refine lv_aload_n hx hb dX7_drawn_24 rfl (lv_at hl 0 rfl) ?_
      refine lv_aload_n hx hb dX7_drawn_25 rfl (lv_at hl 0 rfl) ?_
      refine wk_getl (ci := 6) (k := 27) S hK hH j_X7 t0 rfl hq_6_27 (hts _ (wU_in _ m_651)) dX7_drawn_26 ?_
      refine lv_ldc2 hx hb hown (hts _ (wU_in _ m_978)) dX7_drawn_29 ?_
      refine lv_lmul hx hb dX7_drawn_32 ?_
      refine lv_ldc2 hx hb hown (hts _ (wU_in _ m_979)) dX7_drawn_33 ?_
      refine lv_ladd hx hb dX7_drawn_36 ?_
      refine wk_putl (ci := 6) (k := 27) S hK hH j_X7 tyX7 tyX7_ok nmX7 t0 rfl hq_6_27l rfl hd_6_27 (hts _ (wU_in _ m_651)) dX7_drawn_37 (fun H locs hH => ?_)
      refine lv_aload_n hx hb dX7_drawn_40 rfl (lv_at hl 0 rfl) ?_
      refine wk_getl (ci := 6) (k := 27) S hK hH j_X7 t0 rfl hq_6_27 (hts _ (wU_in _ m_651)) dX7_drawn_41 ?_
      refine lv_bipush (v := 33) hx hb dX7_drawn_44 (by decide) ?_
      refine lv_lushr (v := ((((sL h a0 (((h.2 a0) * (6364136223846793005 : Int64)) + (1442695040888963407 : Int64))).2 a0)).toUInt64 >>> (((33 : Int32)).toInt64.toUInt64 &&& Int64.toUInt64 63)).toInt64) hx hb dX7_drawn_46 rfl ?_
      refine lv_lstore (lv' := [(4, .long ((((((sL h a0 (((h.2 a0) * (6364136223846793005 : Int64)) + (1442695040888963407 : Int64))).2 a0)).toUInt64 >>> (((33 : Int32)).toInt64.toUInt64 &&& Int64.toUInt64 63)).toInt64))), (0, .ref (X.2.2.2 a0)), (1, .int a1), (2, .int x2), (3, .int x3)]) hx hb dX7_drawn_47 hl (by decide) rfl (fun ls hl => ?_)
      refine lv_iconst (v := 0) hx hb dX7_drawn_49 (by decide) ?_
      refine lv_istore (lv' := [(6, .int ((0 : Int32))), (4, .long ((((((sL h a0 (((h.2 a0) * (6364136223846793005 : Int64)) + (1442695040888963407 : Int64))).2 a0)).toUInt64 >>> (((33 : Int32)).toInt64.toUInt64 &&& Int64.toUInt64 63)).toInt64))), (0, .ref (X.2.2.2 a0)), (1, .int a1), (2, .int x2), (3, .int x3)]) hx hb dX7_drawn_50 hl (by decide) rfl (fun ls hl => ?_)
      refine lv_iconst (v := 0) hx hb dX7_drawn_52 (by decide) ?_
      refine lv_istore (lv' := [(7, .int ((0 : Int32))), (6, .int ((0 : Int32))), (4, .long ((((((sL h a0 (((h.2 a0) * (6364136223846793005 : Int64)) + (1442695040888963407 : Int64))).2 a0)).toUInt64 >>> (((33 : Int32)).toInt64.toUInt64 &&& Int64.toUInt64 63)).toInt64))), (0, .ref (X.2.2.2 a0)), (1, .int a1), (2, .int x2), (3, .int x3)]) hx hb dX7_drawn_53 hl (by decide) rfl (fun ls hl => ?_)
      exact BL55 k19 hk19 FU _ _ _ _ _ _ hf H locs ls (lv_sub hl [3, 4, 5, 6, 2, 1, 0] rfl) hH
  have BL19 : ∀ (n : Nat) (x2 : Int32) (x3 : Int32) (h : Hp), f_X7_drawn_19 a0 a1 n x2 x3 h = some (r0, h0) → BK p l e ({ frames := 3, cells := 0, slots := 0, locals := 76 }) s m args below meth c (MQ below (cQi X r0 h0) args s 0 0 (AD X)) X 8 19 [(0, .ref (X.2.2.2 a0)), (1, .int a1), (2, .int x2), (3, .int x3)] [] h := by
    intro n
    induction n with
    | zero => intro x2 x3 h hf; cases hf
    | succ n ih => intro x2 x3 h hf; exact B19 _ ih _ _ _ hf
  intro H locs ls hl hH
  replace hl : lv_has ls 8 [(0, .ref (X.2.2.2 a0)), (1, .int a1)] := hl
  unfold f_X7_drawn at hf
  refine lv_iload_n hx hb dX7_drawn_0 rfl (lv_at hl 1 rfl) ?_
  refine lv_i2l hx hb dX7_drawn_1 rfl ?_
  refine lv_lconst (v := 1) hx hb dX7_drawn_2 (by decide) ?_
  refine lv_ldc2 hx hb hown (hts _ (wU_in _ m_977)) dX7_drawn_3 ?_
  obtain ⟨r11, h10, hq9, hf⟩ := bnd_ok hf
  refine wk_callSi (As := [.long ((a1).toInt64), .long ((1 : Int64)), .long ((20 : Int64))]) (rest := []) S hK hN hH (C_X7_in l X hI ((a1).toInt64) (1 : Int64) (20 : Int64) _ _ _ hq9) (va_cwS 3 hts (gS wU_in m_720 m_721 m_41 m_722) rfl rfl rfl hdS_X7_in ⟨Nat.le_of_ble_eq_true rfl, Nat.le_of_ble_eq_true rfl⟩) hl.1 rfl rfl (Nat.le_of_ble_eq_true rfl) dX7_drawn_6 ⟨Nat.zero_le _, Nat.zero_le _⟩ (fun H locs hH => ?_)
  refine lv_if_ne (tgt := 15) hx hb dX7_drawn_9 (by decide) (fun c12 => ?_) (fun c12 => ?_)
  · replace hf := ite_f c12 hf
    refine lv_iconst (v := 0) hx hb dX7_drawn_15 (by decide) ?_
    refine lv_istore_n (lv' := [(2, .int ((0 : Int32))), (0, .ref (X.2.2.2 a0)), (1, .int a1)]) hx hb dX7_drawn_16 rfl hl (by decide) rfl (fun ls hl => ?_)
    refine lv_iconst (v := 0) hx hb dX7_drawn_17 (by decide) ?_
    refine lv_istore_n (lv' := [(3, .int ((0 : Int32))), (2, .int ((0 : Int32))), (0, .ref (X.2.2.2 a0)), (1, .int a1)]) hx hb dX7_drawn_18 rfl hl (by decide) rfl (fun ls hl => ?_)
    exact BL19 FU _ _ _ hf H locs ls (lv_sub hl [2, 3, 1, 0] rfl) hH
  · replace hf := ite_t c12 hf
    refine lv_bipush (v := (-2)) hx hb dX7_drawn_12 (by decide) ?_
    exact wk_iret S hr hlk hK hN hH hf dX7_drawn_14
set_option maxHeartbeats 4000000 in
set_option maxRecDepth 100000 in
theorem C_X7_keep (l : Launch) (X : Cx) (hI : Inj X) {a0 : Nat} (t0 : tY a0 = 6) (a1 : Int32) (h : Hp) (r0 : Int32) (h0 : Hp) (hf : f_X7_keep a0 a1 h = some (r0, h0)) : Mi l X yX7_keep cX7_keep 3 (some .int) 1 25 h [.ref (X.2.2.2 a0), .int a1] r0 h0 := by
  refine BD_of (own := RX7) hI rfl (by decide) (Nat.le_of_ble_eq_true rfl) ?_
  intro p e s m args below meth c S hr hlk hK hN
  obtain ⟨hx, hb, hml, hown, hts⟩ := id S
  have B21 : ∀ (k21 : Int32 → Hp → Option (Int32 × Hp)) (hk21 : ∀ (x2 : Int32) (h : Hp), k21 x2 h = some (r0, h0) → BK p l e ({ frames := 1, cells := 0, slots := 0, locals := 25 }) s m args below meth c (MQ below (cQi X r0 h0) args s 0 0 (AD X)) X 3 21 [(0, .ref (X.2.2.2 a0)), (1, .int a1), (2, .int x2)] [] h) (x2 : Int32) (h : Hp), g_X7_keep_21 a0 a1 k21 x2 h = some (r0, h0) → BK p l e ({ frames := 1, cells := 0, slots := 0, locals := 25 }) s m args below meth c (MQ below (cQi X r0 h0) args s 0 0 (AD X)) X 3 21 [(0, .ref (X.2.2.2 a0)), (1, .int a1), (2, .int x2)] [] h := by
    intro k21 hk21 x2 h hf H locs ls hl hH
    unfold g_X7_keep_21 at hf
    refine lv_iload_n hx hb dX7_keep_21 rfl (lv_at hl 2 rfl) ?_
    refine lv_bipush (v := 32) hx hb dX7_keep_22 (by decide) ?_
    refine lv_icmp_ge (tgt := 50) hx hb dX7_keep_24 (by decide) (fun c1 => ?_) (fun c1 => ?_)
    · replace hf := ite_t c1 hf
      refine lv_aload_n hx hb dX7_keep_50 rfl (lv_at hl 0 rfl) ?_
      obtain ⟨r4, h3, hq2, hf⟩ := bnd_ok hf
      refine wk_callVi (ci := 6) (b := a0) (As := []) (rest := []) S hK hN hH t0 (by decide) rfl (C_X7_manyForms l X hI t0 _ _ _ hq2) (cwV 0 hts (gV wU_in m_810 m_812 m_22 m_41 m_813) rfl rfl rfl hdV_X7_manyForms ⟨Nat.le_of_ble_eq_true rfl, Nat.le_of_ble_eq_true rfl⟩) hl.1 rfl rfl (Nat.le_of_ble_eq_true rfl) dX7_keep_51 ⟨Nat.zero_le _, Nat.zero_le _⟩ (fun H locs hH => ?_)
      exact wk_iret S hr hlk hK hN hH hf dX7_keep_54
    · replace hf := ite_f c1 hf
      refine lv_aload_n hx hb dX7_keep_27 rfl (lv_at hl 0 rfl) ?_
      refine wk_getr (ci := 6) (k := 7) S hK hH j_X7 t0 rfl hq_6_7 (hts _ (wU_in _ m_631)) dX7_keep_28 ?_
      refine lv_bipush (v := 32) hx hb dX7_keep_31 (by decide) ?_
      refine lv_iload_n hx hb dX7_keep_33 rfl (lv_at hl 1 rfl) ?_
      refine lv_imul hx hb dX7_keep_34 ?_
      refine lv_iload_n hx hb dX7_keep_35 rfl (lv_at hl 2 rfl) ?_
      refine lv_iadd hx hb dX7_keep_36 ?_
      refine lv_aload_n hx hb dX7_keep_37 rfl (lv_at hl 0 rfl) ?_
      refine wk_getr (ci := 6) (k := 2) S hK hH j_X7 t0 rfl hq_6_2 (hts _ (wU_in _ m_626)) dX7_keep_38 ?_
      refine lv_iload_n hx hb dX7_keep_41 rfl (lv_at hl 2 rfl) ?_
      obtain ⟨o5, hf⟩ := ite_ok hf
      refine wk_iald S hK hH (tr_6_2 t0) o5 dX7_keep_42 ?_
      obtain ⟨o6, hf⟩ := ite_ok hf
      refine wk_iast S hK hH (tr_6_7 t0) o6 dX7_keep_43 (fun H locs hH => ?_)
      refine lv_iinc (v := (x2 + (1 : Int32))) (lv' := [(2, .int ((x2 + (1 : Int32)))), (0, .ref (X.2.2.2 a0)), (1, .int a1)]) hx hb dX7_keep_44 hl (k := 2) rfl rfl (by decide) rfl (fun ls hl => ?_)
      refine lv_goto (tgt := 21) hx hb dX7_keep_47 (by decide) ?_
      exact hk21 _ _ hf H locs ls (lv_sub hl [1, 2, 0] rfl) hH
  have BL21 : ∀ (n : Nat) (x2 : Int32) (h : Hp), f_X7_keep_21 a0 a1 n x2 h = some (r0, h0) → BK p l e ({ frames := 1, cells := 0, slots := 0, locals := 25 }) s m args below meth c (MQ below (cQi X r0 h0) args s 0 0 (AD X)) X 3 21 [(0, .ref (X.2.2.2 a0)), (1, .int a1), (2, .int x2)] [] h := by
    intro n
    induction n with
    | zero => intro x2 h hf; cases hf
    | succ n ih => intro x2 h hf; exact B21 _ ih _ _ hf
  intro H locs ls hl hH
  replace hl : lv_has ls 3 [(0, .ref (X.2.2.2 a0)), (1, .int a1)] := hl
  unfold f_X7_keep at hf
  refine lv_iload_n hx hb dX7_keep_0 rfl (lv_at hl 1 rfl) ?_
  refine lv_i2l hx hb dX7_keep_1 rfl ?_
  refine lv_lconst (v := 0) hx hb dX7_keep_2 (by decide) ?_
  refine lv_lconst (v := 1) hx hb dX7_keep_3 (by decide) ?_
  obtain ⟨r9, h8, hq7, hf⟩ := bnd_ok hf
  refine wk_callSi (As := [.long ((a1).toInt64), .long ((0 : Int64)), .long ((1 : Int64))]) (rest := []) S hK hN hH (C_X7_in l X hI ((a1).toInt64) (0 : Int64) (1 : Int64) _ _ _ hq7) (va_cwS 3 hts (gS wU_in m_720 m_721 m_41 m_722) rfl rfl rfl hdS_X7_in ⟨Nat.le_of_ble_eq_true rfl, Nat.le_of_ble_eq_true rfl⟩) hl.1 rfl rfl (Nat.le_of_ble_eq_true rfl) dX7_keep_4 ⟨Nat.zero_le _, Nat.zero_le _⟩ (fun H locs hH => ?_)
  refine lv_if_ne (tgt := 12) hx hb dX7_keep_7 (by decide) (fun c10 => ?_) (fun c10 => ?_)
  · replace hf := ite_f c10 hf
    refine lv_aload_n hx hb dX7_keep_12 rfl (lv_at hl 0 rfl) ?_
    refine wk_getr (ci := 6) (k := 8) S hK hH j_X7 t0 rfl hq_6_8 (hts _ (wU_in _ m_632)) dX7_keep_13 ?_
    refine lv_iload_n hx hb dX7_keep_16 rfl (lv_at hl 1 rfl) ?_
    refine lv_iconst (v := 1) hx hb dX7_keep_17 (by decide) ?_
    obtain ⟨o11, hf⟩ := ite_ok hf
    refine wk_zast S hK hH (tr_6_8 t0) o11 dX7_keep_18 (fun H locs hH => ?_)
    refine lv_iconst (v := 0) hx hb dX7_keep_19 (by decide) ?_
    refine lv_istore_n (lv' := [(2, .int ((0 : Int32))), (0, .ref (X.2.2.2 a0)), (1, .int a1)]) hx hb dX7_keep_20 rfl hl (by decide) rfl (fun ls hl => ?_)
    exact BL21 FU _ _ hf H locs ls (lv_sub hl [1, 2, 0] rfl) hH
  · replace hf := ite_t c10 hf
    refine lv_iconst (v := (-1)) hx hb dX7_keep_10 (by decide) ?_
    exact wk_iret S hr hlk hK hN hH hf dX7_keep_11
set_option maxHeartbeats 4000000 in
set_option maxRecDepth 100000 in
theorem C_X7_again (l : Launch) (X : Cx) (hI : Inj X) {a0 : Nat} (t0 : tY a0 = 6) (a1 : Int32) (h : Hp) (r0 : Int32) (h0 : Hp) (hf : f_X7_again a0 a1 h = some (r0, h0)) : Mi l X yX7_again cX7_again 3 (some .int) 1 25 h [.ref (X.2.2.2 a0), .int a1] r0 h0 := by
  refine BD_of (own := RX7) hI rfl (by decide) (Nat.le_of_ble_eq_true rfl) ?_
  intro p e s m args below meth c S hr hlk hK hN
  obtain ⟨hx, hb, hml, hown, hts⟩ := id S
  have B26 : ∀ (k26 : Int32 → Hp → Option (Int32 × Hp)) (hk26 : ∀ (x2 : Int32) (h : Hp), k26 x2 h = some (r0, h0) → BK p l e ({ frames := 1, cells := 0, slots := 0, locals := 25 }) s m args below meth c (MQ below (cQi X r0 h0) args s 0 0 (AD X)) X 3 26 [(0, .ref (X.2.2.2 a0)), (1, .int a1), (2, .int x2)] [] h) (x2 : Int32) (h : Hp), g_X7_again_26 a0 a1 k26 x2 h = some (r0, h0) → BK p l e ({ frames := 1, cells := 0, slots := 0, locals := 25 }) s m args below meth c (MQ below (cQi X r0 h0) args s 0 0 (AD X)) X 3 26 [(0, .ref (X.2.2.2 a0)), (1, .int a1), (2, .int x2)] [] h := by
    intro k26 hk26 x2 h hf H locs ls hl hH
    unfold g_X7_again_26 at hf
    refine lv_iload_n hx hb dX7_again_26 rfl (lv_at hl 2 rfl) ?_
    refine lv_bipush (v := 32) hx hb dX7_again_27 (by decide) ?_
    refine lv_icmp_ge (tgt := 55) hx hb dX7_again_29 (by decide) (fun c1 => ?_) (fun c1 => ?_)
    · replace hf := ite_t c1 hf
      refine lv_aload_n hx hb dX7_again_55 rfl (lv_at hl 0 rfl) ?_
      refine lv_iconst (v := 0) hx hb dX7_again_56 (by decide) ?_
      refine wk_puti (ci := 6) (k := 5) S hK hH j_X7 tyX7 tyX7_ok nmX7 t0 rfl hq_6_5 rfl hd_6_5 (hts _ (wU_in _ m_629)) dX7_again_57 (fun H locs hH => ?_)
      refine lv_aload_n hx hb dX7_again_60 rfl (lv_at hl 0 rfl) ?_
      obtain ⟨r4, h3, hq2, hf⟩ := bnd_ok hf
      refine wk_callVi (ci := 6) (b := a0) (As := []) (rest := []) S hK hN hH t0 (by decide) rfl (C_X7_manyForms l X hI t0 _ _ _ hq2) (cwV 0 hts (gV wU_in m_810 m_812 m_22 m_41 m_813) rfl rfl rfl hdV_X7_manyForms ⟨Nat.le_of_ble_eq_true rfl, Nat.le_of_ble_eq_true rfl⟩) hl.1 rfl rfl (Nat.le_of_ble_eq_true rfl) dX7_again_61 ⟨Nat.zero_le _, Nat.zero_le _⟩ (fun H locs hH => ?_)
      exact wk_iret S hr hlk hK hN hH hf dX7_again_64
    · replace hf := ite_f c1 hf
      refine lv_aload_n hx hb dX7_again_32 rfl (lv_at hl 0 rfl) ?_
      refine wk_getr (ci := 6) (k := 2) S hK hH j_X7 t0 rfl hq_6_2 (hts _ (wU_in _ m_626)) dX7_again_33 ?_
      refine lv_iload_n hx hb dX7_again_36 rfl (lv_at hl 2 rfl) ?_
      refine lv_aload_n hx hb dX7_again_37 rfl (lv_at hl 0 rfl) ?_
      refine wk_getr (ci := 6) (k := 7) S hK hH j_X7 t0 rfl hq_6_7 (hts _ (wU_in _ m_631)) dX7_again_38 ?_
      refine lv_bipush (v := 32) hx hb dX7_again_41 (by decide) ?_
      refine lv_iload_n hx hb dX7_again_43 rfl (lv_at hl 1 rfl) ?_
      refine lv_imul hx hb dX7_again_44 ?_
      refine lv_iload_n hx hb dX7_again_45 rfl (lv_at hl 2 rfl) ?_
      refine lv_iadd hx hb dX7_again_46 ?_
      obtain ⟨o5, hf⟩ := ite_ok hf
      refine wk_iald S hK hH (tr_6_7 t0) o5 dX7_again_47 ?_
      obtain ⟨o6, hf⟩ := ite_ok hf
      refine wk_iast S hK hH (tr_6_2 t0) o6 dX7_again_48 (fun H locs hH => ?_)
      refine lv_iinc (v := (x2 + (1 : Int32))) (lv' := [(2, .int ((x2 + (1 : Int32)))), (0, .ref (X.2.2.2 a0)), (1, .int a1)]) hx hb dX7_again_49 hl (k := 2) rfl rfl (by decide) rfl (fun ls hl => ?_)
      refine lv_goto (tgt := 26) hx hb dX7_again_52 (by decide) ?_
      exact hk26 _ _ hf H locs ls (lv_sub hl [1, 2, 0] rfl) hH
  have BL26 : ∀ (n : Nat) (x2 : Int32) (h : Hp), f_X7_again_26 a0 a1 n x2 h = some (r0, h0) → BK p l e ({ frames := 1, cells := 0, slots := 0, locals := 25 }) s m args below meth c (MQ below (cQi X r0 h0) args s 0 0 (AD X)) X 3 26 [(0, .ref (X.2.2.2 a0)), (1, .int a1), (2, .int x2)] [] h := by
    intro n
    induction n with
    | zero => intro x2 h hf; cases hf
    | succ n ih => intro x2 h hf; exact B26 _ ih _ _ hf
  intro H locs ls hl hH
  replace hl : lv_has ls 3 [(0, .ref (X.2.2.2 a0)), (1, .int a1)] := hl
  unfold f_X7_again at hf
  refine lv_iload_n hx hb dX7_again_0 rfl (lv_at hl 1 rfl) ?_
  refine lv_i2l hx hb dX7_again_1 rfl ?_
  refine lv_lconst (v := 0) hx hb dX7_again_2 (by decide) ?_
  refine lv_lconst (v := 1) hx hb dX7_again_3 (by decide) ?_
  obtain ⟨r9, h8, hq7, hf⟩ := bnd_ok hf
  refine wk_callSi (As := [.long ((a1).toInt64), .long ((0 : Int64)), .long ((1 : Int64))]) (rest := []) S hK hN hH (C_X7_in l X hI ((a1).toInt64) (0 : Int64) (1 : Int64) _ _ _ hq7) (va_cwS 3 hts (gS wU_in m_720 m_721 m_41 m_722) rfl rfl rfl hdS_X7_in ⟨Nat.le_of_ble_eq_true rfl, Nat.le_of_ble_eq_true rfl⟩) hl.1 rfl rfl (Nat.le_of_ble_eq_true rfl) dX7_again_4 ⟨Nat.zero_le _, Nat.zero_le _⟩ (fun H locs hH => ?_)
  refine lv_if_ne (tgt := 12) hx hb dX7_again_7 (by decide) (fun c10 => ?_) (fun c10 => ?_)
  · replace hf := ite_f c10 hf
    refine lv_aload_n hx hb dX7_again_12 rfl (lv_at hl 0 rfl) ?_
    refine wk_getr (ci := 6) (k := 8) S hK hH j_X7 t0 rfl hq_6_8 (hts _ (wU_in _ m_632)) dX7_again_13 ?_
    refine lv_iload_n hx hb dX7_again_16 rfl (lv_at hl 1 rfl) ?_
    obtain ⟨o11, hf⟩ := ite_ok hf
    refine wk_zald S hK hH (tr_6_8 t0) o11 dX7_again_17 ?_
    refine lv_if_ne (tgt := 24) hx hb dX7_again_18 (by decide) (fun c12 => ?_) (fun c12 => ?_)
    · replace hf := ite_f c12 hf
      refine lv_iconst (v := 0) hx hb dX7_again_24 (by decide) ?_
      refine lv_istore_n (lv' := [(2, .int ((0 : Int32))), (0, .ref (X.2.2.2 a0)), (1, .int a1)]) hx hb dX7_again_25 rfl hl (by decide) rfl (fun ls hl => ?_)
      exact BL26 FU _ _ hf H locs ls (lv_sub hl [1, 2, 0] rfl) hH
    · replace hf := ite_t c12 hf
      refine lv_bipush (v := (-3)) hx hb dX7_again_21 (by decide) ?_
      exact wk_iret S hr hlk hK hN hH hf dX7_again_23
  · replace hf := ite_t c10 hf
    refine lv_iconst (v := (-1)) hx hb dX7_again_10 (by decide) ?_
    exact wk_iret S hr hlk hK hN hH hf dX7_again_11
