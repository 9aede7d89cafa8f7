set_option maxHeartbeats 4000000 in
set_option maxRecDepth 100000 in
theorem C_X7_swap (l : Launch) (X : Cx) (hI : Inj X) {a0 : Nat} (t0 : tY a0 = 6) (a1 : Int32) (a2 : Int32) (h : Hp) (r0 : Int32) (h0 : Hp) (hf : f_X7_swap a0 a1 a2 h = some (r0, h0)) : Mi l X yX7_swap cX7_swap 3 (some .int) 5 127 h [.ref (X.2.2.2 a0), .int a1, .int a2] r0 h0 := by
  refine BD_of (own := RX7) hI rfl (by decide) (Nat.le_of_ble_eq_true rfl) ?_
  intro p e s m args below meth c S hr hlk hK hN
  obtain ⟨hx, hb, hml, hown, hts⟩ := id S
  intro H locs ls hl hH
  replace hl : lv_has ls 3 [(0, .ref (X.2.2.2 a0)), (1, .int a1), (2, .int a2)] := hl
  unfold f_X7_swap at hf
  refine lv_aload_n hx hb dX7_swap_0 rfl (lv_at hl 0 rfl) ?_
  refine lv_iload_n hx hb dX7_swap_1 rfl (lv_at hl 1 rfl) ?_
  obtain ⟨r3, h2, hq1, hf⟩ := bnd_ok hf
  refine wk_callVi (ci := 6) (b := a0) (As := [.int a1]) (rest := []) S hK hN hH t0 (by decide) rfl (C_X7_isChange l X hI t0 a1 _ _ _ hq1) (cwV 1 hts (gV wU_in m_830 m_832 m_25 m_41 m_833) rfl rfl rfl hdV_X7_isChange ⟨Nat.le_of_ble_eq_true rfl, Nat.le_of_ble_eq_true rfl⟩) hl.1 rfl rfl (Nat.le_of_ble_eq_true rfl) dX7_swap_2 ⟨Nat.zero_le _, Nat.zero_le _⟩ (fun H locs hH => ?_)
  refine lv_if_eq (tgt := 16) hx hb dX7_swap_5 (by decide) (fun c4 => ?_) (fun c4 => ?_)
  · replace hf := ite_t c4 hf
    refine lv_iconst (v := (-1)) hx hb dX7_swap_16 (by decide) ?_
    exact wk_iret S hr hlk hK hN hH hf dX7_swap_17
  · replace hf := ite_f c4 hf
    refine lv_aload_n hx hb dX7_swap_8 rfl (lv_at hl 0 rfl) ?_
    refine lv_iload_n hx hb dX7_swap_9 rfl (lv_at hl 2 rfl) ?_
    obtain ⟨r7, h6, hq5, hf⟩ := bnd_ok hf
    refine wk_callVi (ci := 6) (b := a0) (As := [.int a2]) (rest := []) S hK hN hH t0 (by decide) rfl (C_X7_isChange l X hI t0 a2 _ _ _ hq5) (cwV 1 hts (gV wU_in m_830 m_832 m_25 m_41 m_833) rfl rfl rfl hdV_X7_isChange ⟨Nat.le_of_ble_eq_true rfl, Nat.le_of_ble_eq_true rfl⟩) hl.1 rfl rfl (Nat.le_of_ble_eq_true rfl) dX7_swap_10 ⟨Nat.zero_le _, Nat.zero_le _⟩ (fun H locs hH => ?_)
    refine lv_if_ne (tgt := 18) hx hb dX7_swap_13 (by decide) (fun c8 => ?_) (fun c8 => ?_)
    · replace hf := ite_f c8 hf
      refine lv_aload_n hx hb dX7_swap_18 rfl (lv_at hl 0 rfl) ?_
      obtain ⟨h10, hq9, hf⟩ := bind_ok hf
      refine wk_callVv (ci := 6) (b := a0) (As := []) (rest := []) S hK hN hH t0 (by decide) rfl (C_X7_noteDoing l X hI t0 _ _ hq9) (cwV 0 hts (gV wU_in m_864 m_866 m_26 m_41 m_867) rfl rfl rfl hdV_X7_noteDoing ⟨Nat.le_of_ble_eq_true rfl, Nat.le_of_ble_eq_true rfl⟩) hl.1 rfl rfl (Nat.le_of_ble_eq_true rfl) dX7_swap_19 ⟨Nat.zero_le _, Nat.zero_le _⟩ (fun H locs hH => ?_)
      refine lv_aload_n hx hb dX7_swap_22 rfl (lv_at hl 0 rfl) ?_
      refine wk_getr (ci := 6) (k := 2) S hK hH j_X7 t0 rfl hq_6_2 (hts _ (wU_in _ m_626)) dX7_swap_23 ?_
      refine lv_iload_n hx hb dX7_swap_26 rfl (lv_at hl 1 rfl) ?_
      refine lv_iload_n hx hb dX7_swap_27 rfl (lv_at hl 2 rfl) ?_
      obtain ⟨h13, hq12, hf⟩ := bind_ok hf
      refine wk_callSv (As := [.ref (X.2.2.2 (rF a0 2)), .int a1, .int a2]) (rest := []) S hK hN hH (C_X7_swapOn l X hI (tr_6_2 t0) a1 a2 _ _ hq12) (va_cwS 3 hts (gS wU_in m_868 m_869 m_41 m_870) rfl rfl rfl hdS_X7_swapOn ⟨Nat.le_of_ble_eq_true rfl, Nat.le_of_ble_eq_true rfl⟩) hl.1 rfl rfl (Nat.le_of_ble_eq_true rfl) dX7_swap_28 ⟨Nat.zero_le _, Nat.zero_le _⟩ (fun H locs hH => ?_)
      refine lv_aload_n hx hb dX7_swap_31 rfl (lv_at hl 0 rfl) ?_
      refine lv_aload_n hx hb dX7_swap_32 rfl (lv_at hl 0 rfl) ?_
      refine wk_getr (ci := 6) (k := 2) S hK hH j_X7 t0 rfl hq_6_2 (hts _ (wU_in _ m_626)) dX7_swap_33 ?_
      refine lv_bipush (v := 15) hx hb dX7_swap_36 (by decide) ?_
      obtain ⟨r17, h16, hq15, hf⟩ := bnd_ok hf
      refine wk_callVi (ci := 6) (b := a0) (As := [.ref (X.2.2.2 (rF a0 2)), .int ((15 : Int32))]) (rest := []) S hK hN hH t0 (by decide) rfl (C_X7_unlike l X hI t0 (tr_6_2 t0) (15 : Int32) _ _ _ hq15) (cwV 2 hts (gV wU_in m_769 m_771 m_17 m_41 m_772) rfl rfl rfl hdV_X7_unlike ⟨Nat.le_of_ble_eq_true rfl, Nat.le_of_ble_eq_true rfl⟩) hl.1 rfl rfl (Nat.le_of_ble_eq_true rfl) dX7_swap_38 ⟨Nat.zero_le _, Nat.zero_le _⟩ (fun H locs hH => ?_)
      exact wk_iret S hr hlk hK hN hH hf dX7_swap_41
    · replace hf := ite_t c8 hf
      refine lv_iconst (v := (-1)) hx hb dX7_swap_16 (by decide) ?_
      exact wk_iret S hr hlk hK hN hH hf dX7_swap_17
set_option maxHeartbeats 4000000 in
set_option maxRecDepth 100000 in
theorem C_X7_resign (l : Launch) (X : Cx) (hI : Inj X) {a0 : Nat} (t0 : tY a0 = 6) (a1 : Int32) (a2 : Int32) (a3 : Int32) (h : Hp) (r0 : Int32) (h0 : Hp) (hf : f_X7_resign a0 a1 a2 a3 h = some (r0, h0)) : Mi l X yX7_resign cX7_resign 5 (some .int) 2 46 h [.ref (X.2.2.2 a0), .int a1, .int a2, .int a3] r0 h0 := by
  refine BD_of (own := RX7) hI rfl (by decide) (Nat.le_of_ble_eq_true rfl) ?_
  intro p e s m args below meth c S hr hlk hK hN
  obtain ⟨hx, hb, hml, hown, hts⟩ := id S
  intro H locs ls hl hH
  replace hl : lv_has ls 5 [(0, .ref (X.2.2.2 a0)), (1, .int a1), (2, .int a2), (3, .int a3)] := hl
  unfold f_X7_resign at hf
  refine lv_aload_n hx hb dX7_resign_0 rfl (lv_at hl 0 rfl) ?_
  refine lv_iload_n hx hb dX7_resign_1 rfl (lv_at hl 1 rfl) ?_
  obtain ⟨r3, h2, hq1, hf⟩ := bnd_ok hf
  refine wk_callVi (ci := 6) (b := a0) (As := [.int a1]) (rest := []) S hK hN hH t0 (by decide) rfl (C_X7_isChange l X hI t0 a1 _ _ _ hq1) (cwV 1 hts (gV wU_in m_830 m_832 m_25 m_41 m_833) rfl rfl rfl hdV_X7_isChange ⟨Nat.le_of_ble_eq_true rfl, Nat.le_of_ble_eq_true rfl⟩) hl.1 rfl rfl (Nat.le_of_ble_eq_true rfl) dX7_resign_2 ⟨Nat.zero_le _, Nat.zero_le _⟩ (fun H locs hH => ?_)
  refine lv_if_ne (tgt := 10) hx hb dX7_resign_5 (by decide) (fun c4 => ?_) (fun c4 => ?_)
  · replace hf := ite_f c4 hf
    refine lv_iload_n hx hb dX7_resign_10 rfl (lv_at hl 2 rfl) ?_
    refine lv_iload_n hx hb dX7_resign_11 rfl (lv_at hl 3 rfl) ?_
    obtain ⟨r7, h6, hq5, hf⟩ := bnd_ok hf
    refine wk_callSi (As := [.int a2, .int a3]) (rest := []) S hK hN hH (C_X7_isSign l X hI a2 a3 _ _ _ hq5) (va_cwS 2 hts (gS wU_in m_875 m_876 m_41 m_877) rfl rfl rfl hdS_X7_isSign ⟨Nat.le_of_ble_eq_true rfl, Nat.le_of_ble_eq_true rfl⟩) hl.1 rfl rfl (Nat.le_of_ble_eq_true rfl) dX7_resign_12 ⟨Nat.zero_le _, Nat.zero_le _⟩ (fun H locs hH => ?_)
    refine lv_if_ne (tgt := 21) hx hb dX7_resign_15 (by decide) (fun c8 => ?_) (fun c8 => ?_)
    · replace hf := ite_f c8 hf
      refine lv_aload_n hx hb dX7_resign_21 rfl (lv_at hl 0 rfl) ?_
      obtain ⟨h10, hq9, hf⟩ := bind_ok hf
      refine wk_callVv (ci := 6) (b := a0) (As := []) (rest := []) S hK hN hH t0 (by decide) rfl (C_X7_noteDoing l X hI t0 _ _ hq9) (cwV 0 hts (gV wU_in m_864 m_866 m_26 m_41 m_867) rfl rfl rfl hdV_X7_noteDoing ⟨Nat.le_of_ble_eq_true rfl, Nat.le_of_ble_eq_true rfl⟩) hl.1 rfl rfl (Nat.le_of_ble_eq_true rfl) dX7_resign_22 ⟨Nat.zero_le _, Nat.zero_le _⟩ (fun H locs hH => ?_)
      refine lv_aload_n hx hb dX7_resign_25 rfl (lv_at hl 0 rfl) ?_
      refine wk_getr (ci := 6) (k := 2) S hK hH j_X7 t0 rfl hq_6_2 (hts _ (wU_in _ m_626)) dX7_resign_26 ?_
      refine lv_iconst (v := 4) hx hb dX7_resign_29 (by decide) ?_
      refine lv_iconst (v := 4) hx hb dX7_resign_30 (by decide) ?_
      refine lv_iload_n hx hb dX7_resign_31 rfl (lv_at hl 1 rfl) ?_
      refine lv_imul hx hb dX7_resign_32 ?_
      refine lv_iadd hx hb dX7_resign_33 ?_
      refine lv_iload_n hx hb dX7_resign_34 rfl (lv_at hl 2 rfl) ?_
      refine lv_iadd hx hb dX7_resign_35 ?_
      obtain ⟨o12, hf⟩ := ite_ok hf
      refine wk_iald S hK hH (tr_6_2 t0) o12 dX7_resign_36 ?_
      refine lv_istore (lv' := [(4, .int ((h10.1 (rF a0 2) ((((4 : Int32) + ((4 : Int32) * a1)) + a2)).toNatClampNeg))), (0, .ref (X.2.2.2 a0)), (1, .int a1), (2, .int a2), (3, .int a3)]) hx hb dX7_resign_37 hl (by decide) rfl (fun ls hl => ?_)
      refine lv_aload_n hx hb dX7_resign_39 rfl (lv_at hl 1 rfl) ?_
      refine wk_getr (ci := 6) (k := 2) S hK hH j_X7 t0 rfl hq_6_2 (hts _ (wU_in _ m_626)) dX7_resign_40 ?_
      refine lv_iconst (v := 4) hx hb dX7_resign_43 (by decide) ?_
      refine lv_iconst (v := 4) hx hb dX7_resign_44 (by decide) ?_
      refine lv_iload_n hx hb dX7_resign_45 rfl (lv_at hl 2 rfl) ?_
      refine lv_imul hx hb dX7_resign_46 ?_
      refine lv_iadd hx hb dX7_resign_47 ?_
      refine lv_iload_n hx hb dX7_resign_48 rfl (lv_at hl 3 rfl) ?_
      refine lv_iadd hx hb dX7_resign_49 ?_
      refine lv_iload_n hx hb dX7_resign_50 rfl (lv_at hl 4 rfl) ?_
      obtain ⟨o13, hf⟩ := ite_ok hf
      refine wk_iast S hK hH (tr_6_2 t0) o13 dX7_resign_51 (fun H locs hH => ?_)
      refine lv_iload hx hb dX7_resign_52 (lv_at hl 0 rfl) ?_
      exact wk_iret S hr hlk hK hN hH hf dX7_resign_54
    · replace hf := ite_t c8 hf
      refine lv_bipush (v := (-2)) hx hb dX7_resign_18 (by decide) ?_
      exact wk_iret S hr hlk hK hN hH hf dX7_resign_20
  · replace hf := ite_t c4 hf
    refine lv_iconst (v := (-1)) hx hb dX7_resign_8 (by decide) ?_
    exact wk_iret S hr hlk hK hN hH hf dX7_resign_9
set_option maxHeartbeats 4000000 in
set_option maxRecDepth 100000 in
theorem C_X7_tell (l : Launch) (X : Cx) (hI : Inj X) {a0 : Nat} (t0 : tY a0 = 6) (a1 : Int32) (a2 : Int32) (a3 : Int32) (h : Hp) (r0 : Int32) (h0 : Hp) (hf : f_X7_tell a0 a1 a2 a3 h = some (r0, h0)) : Mi l X yX7_tell cX7_tell 4 (some .int) 5 125 h [.ref (X.2.2.2 a0), .int a1, .int a2, .int a3] r0 h0 := by
  refine BD_of (own := RX7) hI rfl (by decide) (Nat.le_of_ble_eq_true rfl) ?_
  intro p e s m args below meth c S hr hlk hK hN
  obtain ⟨hx, hb, hml, hown, hts⟩ := id S
  have B34 : ∀ (h : Hp), g_X7_tell_34 a0 a1 a2 a3 h = some (r0, h0) → BK p l e ({ frames := 5, cells := 0, slots := 0, locals := 125 }) s m args below meth c (MQ below (cQi X r0 h0) args s 0 0 (AD X)) X 4 34 [(0, .ref (X.2.2.2 a0)), (1, .int a1), (2, .int a2), (3, .int a3)] [] h := by
    intro h hf H locs ls hl hH
    unfold g_X7_tell_34 at hf
    refine lv_aload_n hx hb dX7_tell_34 rfl (lv_at hl 0 rfl) ?_
    obtain ⟨h2, hq1, hf⟩ := bind_ok hf
    refine wk_callVv (ci := 6) (b := a0) (As := []) (rest := []) S hK hN hH t0 (by decide) rfl (C_X7_noteDoing l X hI t0 _ _ hq1) (cwV 0 hts (gV wU_in m_864 m_866 m_26 m_41 m_867) rfl rfl rfl hdV_X7_noteDoing ⟨Nat.le_of_ble_eq_true rfl, Nat.le_of_ble_eq_true rfl⟩) hl.1 rfl rfl (Nat.le_of_ble_eq_true rfl) dX7_tell_35 ⟨Nat.zero_le _, Nat.zero_le _⟩ (fun H locs hH => ?_)
    refine lv_aload_n hx hb dX7_tell_38 rfl (lv_at hl 0 rfl) ?_
    refine wk_getr (ci := 6) (k := 2) S hK hH j_X7 t0 rfl hq_6_2 (hts _ (wU_in _ m_626)) dX7_tell_39 ?_
    refine lv_bipush (v := 20) hx hb dX7_tell_42 (by decide) ?_
    refine lv_iconst (v := 3) hx hb dX7_tell_44 (by decide) ?_
    refine lv_iload_n hx hb dX7_tell_45 rfl (lv_at hl 1 rfl) ?_
    refine lv_imul hx hb dX7_tell_46 ?_
    refine lv_iadd hx hb dX7_tell_47 ?_
    refine lv_iload_n hx hb dX7_tell_48 rfl (lv_at hl 2 rfl) ?_
    refine lv_iadd hx hb dX7_tell_49 ?_
    refine lv_iload_n hx hb dX7_tell_50 rfl (lv_at hl 3 rfl) ?_
    obtain ⟨o4, hf⟩ := ite_ok hf
    refine wk_iast S hK hH (tr_6_2 t0) o4 dX7_tell_51 (fun H locs hH => ?_)
    refine lv_aload_n hx hb dX7_tell_52 rfl (lv_at hl 0 rfl) ?_
    refine lv_aload_n hx hb dX7_tell_53 rfl (lv_at hl 0 rfl) ?_
    refine wk_getr (ci := 6) (k := 2) S hK hH j_X7 t0 rfl hq_6_2 (hts _ (wU_in _ m_626)) dX7_tell_54 ?_
    obtain ⟨r7, h6, hq5, hf⟩ := bnd_ok hf
    refine wk_callVi (ci := 6) (b := a0) (As := [.ref (X.2.2.2 (rF a0 2))]) (rest := []) S hK hN hH t0 (by decide) rfl (C_X7_exceptions l X hI t0 (tr_6_2 t0) _ _ _ hq5) (cwV 1 hts (gV wU_in m_806 m_808 m_21 m_41 m_809) rfl rfl rfl hdV_X7_exceptions ⟨Nat.le_of_ble_eq_true rfl, Nat.le_of_ble_eq_true rfl⟩) hl.1 rfl rfl (Nat.le_of_ble_eq_true rfl) dX7_tell_57 ⟨Nat.zero_le _, Nat.zero_le _⟩ (fun H locs hH => ?_)
    exact wk_iret S hr hlk hK hN hH hf dX7_tell_60
  intro H locs ls hl hH
  replace hl : lv_has ls 4 [(0, .ref (X.2.2.2 a0)), (1, .int a1), (2, .int a2), (3, .int a3)] := hl
  unfold f_X7_tell at hf
  refine lv_aload_n hx hb dX7_tell_0 rfl (lv_at hl 0 rfl) ?_
  refine lv_iload_n hx hb dX7_tell_1 rfl (lv_at hl 1 rfl) ?_
  obtain ⟨r10, h9, hq8, hf⟩ := bnd_ok hf
  refine wk_callVi (ci := 6) (b := a0) (As := [.int a1]) (rest := []) S hK hN hH t0 (by decide) rfl (C_X7_isRoot l X hI t0 a1 _ _ _ hq8) (cwV 1 hts (gV wU_in m_818 m_820 m_23 m_41 m_821) rfl rfl rfl hdV_X7_isRoot ⟨Nat.le_of_ble_eq_true rfl, Nat.le_of_ble_eq_true rfl⟩) hl.1 rfl rfl (Nat.le_of_ble_eq_true rfl) dX7_tell_2 ⟨Nat.zero_le _, Nat.zero_le _⟩ (fun H locs hH => ?_)
  refine lv_if_eq (tgt := 16) hx hb dX7_tell_5 (by decide) (fun c11 => ?_) (fun c11 => ?_)
  · replace hf := ite_t c11 hf
    refine lv_iconst (v := (-1)) hx hb dX7_tell_16 (by decide) ?_
    exact wk_iret S hr hlk hK hN hH hf dX7_tell_17
  · replace hf := ite_f c11 hf
    refine lv_aload_n hx hb dX7_tell_8 rfl (lv_at hl 0 rfl) ?_
    refine lv_iload_n hx hb dX7_tell_9 rfl (lv_at hl 2 rfl) ?_
    obtain ⟨r14, h13, hq12, hf⟩ := bnd_ok hf
    refine wk_callVi (ci := 6) (b := a0) (As := [.int a2]) (rest := []) S hK hN hH t0 (by decide) rfl (C_X7_isEnding l X hI t0 a2 _ _ _ hq12) (cwV 1 hts (gV wU_in m_822 m_824 m_24 m_41 m_825) rfl rfl rfl hdV_X7_isEnding ⟨Nat.le_of_ble_eq_true rfl, Nat.le_of_ble_eq_true rfl⟩) hl.1 rfl rfl (Nat.le_of_ble_eq_true rfl) dX7_tell_10 ⟨Nat.zero_le _, Nat.zero_le _⟩ (fun H locs hH => ?_)
    refine lv_if_ne (tgt := 18) hx hb dX7_tell_13 (by decide) (fun c15 => ?_) (fun c15 => ?_)
    · replace hf := ite_f c15 hf
      refine lv_iload_n hx hb dX7_tell_18 rfl (lv_at hl 3 rfl) ?_
      refine lv_bipush (v := (-9)) hx hb dX7_tell_19 (by decide) ?_
      refine lv_icmp_eq (tgt := 34) hx hb dX7_tell_21 (by decide) (fun c16 => ?_) (fun c16 => ?_)
      · replace hf := ite_t c16 hf
        exact B34 _ hf H locs ls (lv_sub hl [0, 1, 2, 3] rfl) hH
      · replace hf := ite_f c16 hf
        refine lv_iload_n hx hb dX7_tell_24 rfl (lv_at hl 3 rfl) ?_
        obtain ⟨r19, h18, hq17, hf⟩ := bnd_ok hf
        refine wk_callSi (As := [.int a3]) (rest := []) S hK hN hH (C_X7_isWord l X hI a3 _ _ _ hq17) (va_cwS 1 hts (gS wU_in m_851 m_852 m_41 m_853) rfl rfl rfl hdS_X7_isWord ⟨Nat.le_of_ble_eq_true rfl, Nat.le_of_ble_eq_true rfl⟩) hl.1 rfl rfl (Nat.le_of_ble_eq_true rfl) dX7_tell_25 ⟨Nat.zero_le _, Nat.zero_le _⟩ (fun H locs hH => ?_)
        refine lv_if_ne (tgt := 34) hx hb dX7_tell_28 (by decide) (fun c20 => ?_) (fun c20 => ?_)
        · replace hf := ite_f c20 hf
          exact B34 _ hf H locs ls (lv_sub hl [0, 1, 2, 3] rfl) hH
        · replace hf := ite_t c20 hf
          refine lv_bipush (v := (-2)) hx hb dX7_tell_31 (by decide) ?_
          exact wk_iret S hr hlk hK hN hH hf dX7_tell_33
    · replace hf := ite_t c15 hf
      refine lv_iconst (v := (-1)) hx hb dX7_tell_16 (by decide) ?_
      exact wk_iret S hr hlk hK hN hH hf dX7_tell_17
set_option maxHeartbeats 4000000 in
set_option maxRecDepth 100000 in
theorem C_X7_undo (l : Launch) (X : Cx) (hI : Inj X) {a0 : Nat} (t0 : tY a0 = 6) (h : Hp) (r0 : Int32) (h0 : Hp) (hf : f_X7_undo a0 h = some (r0, h0)) : Mi l X yX7_undo cX7_undo 2 (some .int) 0 0 h [.ref (X.2.2.2 a0)] r0 h0 := by
  refine BD_of (own := RX7) hI rfl (by decide) (Nat.le_of_ble_eq_true rfl) ?_
  intro p e s m args below meth c S hr hlk hK hN
  obtain ⟨hx, hb, hml, hown, hts⟩ := id S
  have B38 : ∀ (k38 : Int32 → Hp → Option (Int32 × Hp)) (hk38 : ∀ (x1 : Int32) (h : Hp), k38 x1 h = some (r0, h0) → BK p l e ({ frames := 0, cells := 0, slots := 0, locals := 0 }) s m args below meth c (MQ below (cQi X r0 h0) args s 0 0 (AD X)) X 2 38 [(0, .ref (X.2.2.2 a0)), (1, .int x1)] [] h) (x1 : Int32) (h : Hp), g_X7_undo_38 a0 k38 x1 h = some (r0, h0) → BK p l e ({ frames := 0, cells := 0, slots := 0, locals := 0 }) s m args below meth c (MQ below (cQi X r0 h0) args s 0 0 (AD X)) X 2 38 [(0, .ref (X.2.2.2 a0)), (1, .int x1)] [] h := by
    intro k38 hk38 x1 h hf H locs ls hl hH
    unfold g_X7_undo_38 at hf
    refine lv_iload_n hx hb dX7_undo_38 rfl (lv_at hl 1 rfl) ?_
    refine lv_bipush (v := 32) hx hb dX7_undo_39 (by decide) ?_
    refine lv_icmp_ge (tgt := 70) hx hb dX7_undo_41 (by decide) (fun c1 => ?_) (fun c1 => ?_)
    · replace hf := ite_t c1 hf
      refine lv_aload_n hx hb dX7_undo_70 rfl (lv_at hl 0 rfl) ?_
      refine wk_geti (ci := 6) (k := 5) S hK hH j_X7 t0 rfl hq_6_5 (hts _ (wU_in _ m_629)) dX7_undo_71 ?_
      exact wk_iret S hr hlk hK hN hH hf dX7_undo_74
    · replace hf := ite_f c1 hf
      refine lv_aload_n hx hb dX7_undo_44 rfl (lv_at hl 0 rfl) ?_
      refine wk_getr (ci := 6) (k := 2) S hK hH j_X7 t0 rfl hq_6_2 (hts _ (wU_in _ m_626)) dX7_undo_45 ?_
      refine lv_iload_n hx hb dX7_undo_48 rfl (lv_at hl 1 rfl) ?_
      refine lv_aload_n hx hb dX7_undo_49 rfl (lv_at hl 0 rfl) ?_
      refine wk_getr (ci := 6) (k := 4) S hK hH j_X7 t0 rfl hq_6_4 (hts _ (wU_in _ m_628)) dX7_undo_50 ?_
      refine lv_bipush (v := 32) hx hb dX7_undo_53 (by decide) ?_
      refine lv_aload_n hx hb dX7_undo_55 rfl (lv_at hl 0 rfl) ?_
      refine wk_geti (ci := 6) (k := 6) S hK hH j_X7 t0 rfl hq_6_6 (hts _ (wU_in _ m_630)) dX7_undo_56 ?_
      refine lv_imul hx hb dX7_undo_59 ?_
      refine lv_iload_n hx hb dX7_undo_60 rfl (lv_at hl 1 rfl) ?_
      refine lv_iadd hx hb dX7_undo_61 ?_
      obtain ⟨o2, hf⟩ := ite_ok hf
      refine wk_iald S hK hH (tr_6_4 t0) o2 dX7_undo_62 ?_
      obtain ⟨o3, hf⟩ := ite_ok hf
      refine wk_iast S hK hH (tr_6_2 t0) o3 dX7_undo_63 (fun H locs hH => ?_)
      refine lv_iinc (v := (x1 + (1 : Int32))) (lv' := [(1, .int ((x1 + (1 : Int32)))), (0, .ref (X.2.2.2 a0))]) hx hb dX7_undo_64 hl (k := 1) rfl rfl (by decide) rfl (fun ls hl => ?_)
      refine lv_goto (tgt := 38) hx hb dX7_undo_67 (by decide) ?_
      exact hk38 _ _ hf H locs ls (lv_sub hl [1, 0] rfl) hH
  have BL38 : ∀ (n : Nat) (x1 : Int32) (h : Hp), f_X7_undo_38 a0 n x1 h = some (r0, h0) → BK p l e ({ frames := 0, cells := 0, slots := 0, locals := 0 }) s m args below meth c (MQ below (cQi X r0 h0) args s 0 0 (AD X)) X 2 38 [(0, .ref (X.2.2.2 a0)), (1, .int x1)] [] h := by
    intro n
    induction n with
    | zero => intro x1 h hf; cases hf
    | succ n ih => intro x1 h hf; exact B38 _ ih _ _ hf
  intro H locs ls hl hH
  replace hl : lv_has ls 2 [(0, .ref (X.2.2.2 a0))] := hl
  unfold f_X7_undo at hf
  refine lv_aload_n hx hb dX7_undo_0 rfl (lv_at hl 0 rfl) ?_
  refine wk_geti (ci := 6) (k := 5) S hK hH j_X7 t0 rfl hq_6_5 (hts _ (wU_in _ m_629)) dX7_undo_1 ?_
  refine lv_if_ne (tgt := 10) hx hb dX7_undo_4 (by decide) (fun c4 => ?_) (fun c4 => ?_)
  · replace hf := ite_f c4 hf
    refine lv_aload_n hx hb dX7_undo_10 rfl (lv_at hl 0 rfl) ?_
    refine lv_dup hx hb dX7_undo_11 rfl ?_
    refine wk_geti (ci := 6) (k := 5) S hK hH j_X7 t0 rfl hq_6_5 (hts _ (wU_in _ m_629)) dX7_undo_12 ?_
    refine lv_iconst (v := 1) hx hb dX7_undo_15 (by decide) ?_
    refine lv_isub hx hb dX7_undo_16 ?_
    refine wk_puti (ci := 6) (k := 5) S hK hH j_X7 tyX7 tyX7_ok nmX7 t0 rfl hq_6_5 rfl hd_6_5 (hts _ (wU_in _ m_629)) dX7_undo_17 (fun H locs hH => ?_)
    refine lv_aload_n hx hb dX7_undo_20 rfl (lv_at hl 0 rfl) ?_
    refine lv_aload_n hx hb dX7_undo_21 rfl (lv_at hl 0 rfl) ?_
    refine wk_geti (ci := 6) (k := 6) S hK hH j_X7 t0 rfl hq_6_6 (hts _ (wU_in _ m_630)) dX7_undo_22 ?_
    refine lv_bipush (v := 14) hx hb dX7_undo_25 (by decide) ?_
    refine lv_iadd hx hb dX7_undo_27 ?_
    refine lv_iconst (v := 1) hx hb dX7_undo_28 (by decide) ?_
    refine lv_isub hx hb dX7_undo_29 ?_
    refine lv_bipush (v := 14) hx hb dX7_undo_30 (by decide) ?_
    refine lv_irem hx hb dX7_undo_32 (by decide) ?_
    refine wk_puti (ci := 6) (k := 6) S hK hH j_X7 tyX7 tyX7_ok nmX7 t0 rfl hq_6_6 rfl hd_6_6 (hts _ (wU_in _ m_630)) dX7_undo_33 (fun H locs hH => ?_)
    refine lv_iconst (v := 0) hx hb dX7_undo_36 (by decide) ?_
    refine lv_istore_n (lv' := [(1, .int ((0 : Int32))), (0, .ref (X.2.2.2 a0))]) hx hb dX7_undo_37 rfl hl (by decide) rfl (fun ls hl => ?_)
    exact BL38 FU _ _ hf H locs ls (lv_sub hl [1, 0] rfl) hH
  · replace hf := ite_t c4 hf
    refine lv_bipush (v := (-3)) hx hb dX7_undo_7 (by decide) ?_
    exact wk_iret S hr hlk hK hN hH hf dX7_undo_9
set_option maxHeartbeats 4000000 in
set_option maxRecDepth 100000 in
theorem C_X7_areCrossing (l : Launch) (X : Cx) (hI : Inj X) {a0 : Nat} (t0 : tY a0 = 6) {a1 : Nat} (t1 : tY a1 = 100) (a2 : Int32) (a3 : Int32) (h : Hp) (r0 : Int32) (h0 : Hp) (hf : f_X7_areCrossing a0 a1 a2 a3 h = some (r0, h0)) : Mi l X yX7_areCrossing cX7_areCrossing 9 (some .boolean) 3 66 h [.ref (X.2.2.2 a0), .ref (X.2.2.2 a1), .int a2, .int a3] r0 h0 := by
  refine BD_of (own := RX7) hI rfl (by decide) (Nat.le_of_ble_eq_true rfl) ?_
  intro p e s m args below meth c S hr hlk hK hN
  obtain ⟨hx, hb, hml, hown, hts⟩ := id S
  have B85 : ∀ (k6 : Int32 → Int32 → Hp → Option (Int32 × Hp)) (hk6 : ∀ (x4 : Int32) (x5 : Int32) (h : Hp), k6 x4 x5 h = some (r0, h0) → BK p l e ({ frames := 3, cells := 0, slots := 0, locals := 66 }) s m args below meth c (MQ below (cQi X r0 h0) args s 0 0 (AD X)) X 9 6 [(0, .ref (X.2.2.2 a0)), (1, .ref (X.2.2.2 a1)), (2, .int a2), (3, .int a3), (4, .int x4), (5, .int x5)] [] h) (x5 : Int32) (z0 : Int32) (h : Hp), g_X7_areCrossing_85 a0 a1 a2 a3 k6 x5 z0 h = some (r0, h0) → BK p l e ({ frames := 3, cells := 0, slots := 0, locals := 66 }) s m args below meth c (MQ below (cQi X r0 h0) args s 0 0 (AD X)) X 9 85 [(0, .ref (X.2.2.2 a0)), (1, .ref (X.2.2.2 a1)), (2, .int a2), (3, .int a3), (5, .int x5)] [.int z0] h := by
    intro k6 hk6 x5 z0 h hf H locs ls hl hH
    unfold g_X7_areCrossing_85 at hf
    refine lv_istore (lv' := [(4, .int z0), (0, .ref (X.2.2.2 a0)), (1, .ref (X.2.2.2 a1)), (2, .int a2), (3, .int a3), (5, .int x5)]) hx hb dX7_areCrossing_85 hl (by decide) rfl (fun ls hl => ?_)
    refine lv_iinc (v := (x5 + (1 : Int32))) (lv' := [(5, .int ((x5 + (1 : Int32)))), (4, .int z0), (0, .ref (X.2.2.2 a0)), (1, .ref (X.2.2.2 a1)), (2, .int a2), (3, .int a3)]) hx hb dX7_areCrossing_87 hl (k := 5) rfl rfl (by decide) rfl (fun ls hl => ?_)
    refine lv_goto (tgt := 6) hx hb dX7_areCrossing_90 (by decide) ?_
    exact hk6 _ _ _ hf H locs ls (lv_sub hl [2, 3, 4, 5, 1, 0] rfl) hH
  have B80 : ∀ (k6 : Int32 → Int32 → Hp → Option (Int32 × Hp)) (hk6 : ∀ (x4 : Int32) (x5 : Int32) (h : Hp), k6 x4 x5 h = some (r0, h0) → BK p l e ({ frames := 3, cells := 0, slots := 0, locals := 66 }) s m args below meth c (MQ below (cQi X r0 h0) args s 0 0 (AD X)) X 9 6 [(0, .ref (X.2.2.2 a0)), (1, .ref (X.2.2.2 a1)), (2, .int a2), (3, .int a3), (4, .int x4), (5, .int x5)] [] h) (x5 : Int32) (h : Hp), g_X7_areCrossing_80 a0 a1 a2 a3 k6 x5 h = some (r0, h0) → BK p l e ({ frames := 3, cells := 0, slots := 0, locals := 66 }) s m args below meth c (MQ below (cQi X r0 h0) args s 0 0 (AD X)) X 9 80 [(0, .ref (X.2.2.2 a0)), (1, .ref (X.2.2.2 a1)), (2, .int a2), (3, .int a3), (5, .int x5)] [] h := by
    intro k6 hk6 x5 h hf H locs ls hl hH
    unfold g_X7_areCrossing_80 at hf
    refine lv_iconst (v := 1) hx hb dX7_areCrossing_80 (by decide) ?_
    refine lv_goto (tgt := 85) hx hb dX7_areCrossing_81 (by decide) ?_
    exact B85 k6 hk6 _ _ _ hf H locs ls (lv_sub hl [0, 1, 2, 3, 4] rfl) hH
  have B6 : ∀ (k6 : Int32 → Int32 → Hp → Option (Int32 × Hp)) (hk6 : ∀ (x4 : Int32) (x5 : Int32) (h : Hp), k6 x4 x5 h = some (r0, h0) → BK p l e ({ frames := 3, cells := 0, slots := 0, locals := 66 }) s m args below meth c (MQ below (cQi X r0 h0) args s 0 0 (AD X)) X 9 6 [(0, .ref (X.2.2.2 a0)), (1, .ref (X.2.2.2 a1)), (2, .int a2), (3, .int a3), (4, .int x4), (5, .int x5)] [] h) (x4 : Int32) (x5 : Int32) (h : Hp), g_X7_areCrossing_6 a0 a1 a2 a3 k6 x4 x5 h = some (r0, h0) → BK p l e ({ frames := 3, cells := 0, slots := 0, locals := 66 }) s m args below meth c (MQ below (cQi X r0 h0) args s 0 0 (AD X)) X 9 6 [(0, .ref (X.2.2.2 a0)), (1, .ref (X.2.2.2 a1)), (2, .int a2), (3, .int a3), (4, .int x4), (5, .int x5)] [] h := by
    intro k6 hk6 x4 x5 h hf H locs ls hl hH
    unfold g_X7_areCrossing_6 at hf
    refine lv_iload hx hb dX7_areCrossing_6 (lv_at hl 5 rfl) ?_
    refine lv_aload_n hx hb dX7_areCrossing_8 rfl (lv_at hl 0 rfl) ?_
    refine wk_geti (ci := 6) (k := 11) S hK hH j_X7 t0 rfl hq_6_11 (hts _ (wU_in _ m_635)) dX7_areCrossing_9 ?_
    refine lv_aload_n hx hb dX7_areCrossing_12 rfl (lv_at hl 0 rfl) ?_
    refine wk_geti (ci := 6) (k := 12) S hK hH j_X7 t0 rfl hq_6_12 (hts _ (wU_in _ m_636)) dX7_areCrossing_13 ?_
    refine lv_imul hx hb dX7_areCrossing_16 ?_
    refine lv_icmp_ge (tgt := 93) hx hb dX7_areCrossing_17 (by decide) (fun c1 => ?_) (fun c1 => ?_)
    · replace hf := ite_t c1 hf
      refine lv_iload hx hb dX7_areCrossing_93 (lv_at hl 4 rfl) ?_
      obtain ⟨o2, hf⟩ := ite_ok hf
      exact wk_zret S hr hlk hK hN hH (okZ_nar o2) hf dX7_areCrossing_95
    · replace hf := ite_f c1 hf
      refine lv_aload_n hx hb dX7_areCrossing_20 rfl (lv_at hl 0 rfl) ?_
      refine lv_iload hx hb dX7_areCrossing_21 (lv_at hl 5 rfl) ?_
      refine lv_aload_n hx hb dX7_areCrossing_23 rfl (lv_at hl 0 rfl) ?_
      refine wk_geti (ci := 6) (k := 12) S hK hH j_X7 t0 rfl hq_6_12 (hts _ (wU_in _ m_636)) dX7_areCrossing_24 ?_
      obtain ⟨o3, hf⟩ := ite_no hf
      refine lv_idiv hx hb dX7_areCrossing_27 o3 ?_
      refine lv_iload hx hb dX7_areCrossing_28 (lv_at hl 5 rfl) ?_
      refine lv_aload_n hx hb dX7_areCrossing_30 rfl (lv_at hl 0 rfl) ?_
      refine wk_geti (ci := 6) (k := 12) S hK hH j_X7 t0 rfl hq_6_12 (hts _ (wU_in _ m_636)) dX7_areCrossing_31 ?_
      obtain ⟨o4, hf⟩ := ite_no hf
      refine lv_irem hx hb dX7_areCrossing_34 o4 ?_
      obtain ⟨r7, h6, hq5, hf⟩ := bnd_ok hf
      refine wk_callVi (ci := 6) (b := a0) (As := [.int ((x5 / (h.1 a0 12))), .int ((x5 - x5 / (h.1 a0 12) * (h.1 a0 12)))]) (rest := []) S hK hN hH t0 (by decide) rfl (C_X7_raw l X hI t0 (x5 / (h.1 a0 12)) (x5 - x5 / (h.1 a0 12) * (h.1 a0 12)) _ _ _ hq5) (cwV 2 hts (gV wU_in m_777 m_779 m_19 m_41 m_780) rfl rfl rfl hdV_X7_raw ⟨Nat.le_of_ble_eq_true rfl, Nat.le_of_ble_eq_true rfl⟩) hl.1 rfl rfl (Nat.le_of_ble_eq_true rfl) dX7_areCrossing_35 ⟨Nat.zero_le _, Nat.zero_le _⟩ (fun H locs hH => ?_)
      refine lv_istore (lv' := [(6, .int r7), (0, .ref (X.2.2.2 a0)), (1, .ref (X.2.2.2 a1)), (2, .int a2), (3, .int a3), (4, .int x4), (5, .int x5)]) hx hb dX7_areCrossing_38 hl (by decide) rfl (fun ls hl => ?_)
      refine lv_aload_n hx hb dX7_areCrossing_40 rfl (lv_at hl 2 rfl) ?_
      refine lv_iload_n hx hb dX7_areCrossing_41 rfl (lv_at hl 4 rfl) ?_
      refine lv_aload_n hx hb dX7_areCrossing_42 rfl (lv_at hl 2 rfl) ?_
      refine lv_iload_n hx hb dX7_areCrossing_43 rfl (lv_at hl 3 rfl) ?_
      refine lv_iload hx hb dX7_areCrossing_44 (lv_at hl 0 rfl) ?_
      obtain ⟨r10, h9, hq8, hf⟩ := bnd_ok hf
      refine wk_callSi (As := [.ref (X.2.2.2 a1), .int a2, .int r7]) (rest := [.int a3, .ref (X.2.2.2 a1)]) S hK hN hH (C_X7_changed l X hI t1 a2 r7 _ _ _ hq8) (va_cwS 3 hts (gS wU_in m_796 m_797 m_41 m_798) rfl rfl rfl hdS_X7_changed ⟨Nat.le_of_ble_eq_true rfl, Nat.le_of_ble_eq_true rfl⟩) hl.1 rfl rfl (Nat.le_of_ble_eq_true rfl) dX7_areCrossing_46 ⟨Nat.zero_le _, Nat.zero_le _⟩ (fun H locs hH => ?_)
      obtain ⟨r13, h12, hq11, hf⟩ := bnd_ok hf
      refine wk_callSi (As := [.ref (X.2.2.2 a1), .int a3, .int r10]) (rest := []) S hK hN hH (C_X7_changed l X hI t1 a3 r10 _ _ _ hq11) (va_cwS 3 hts (gS wU_in m_796 m_797 m_41 m_798) rfl rfl rfl hdS_X7_changed ⟨Nat.le_of_ble_eq_true rfl, Nat.le_of_ble_eq_true rfl⟩) hl.1 rfl rfl (Nat.le_of_ble_eq_true rfl) dX7_areCrossing_49 ⟨Nat.zero_le _, Nat.zero_le _⟩ (fun H locs hH => ?_)
      refine lv_istore (lv' := [(7, .int r13), (6, .int r7), (0, .ref (X.2.2.2 a0)), (1, .ref (X.2.2.2 a1)), (2, .int a2), (3, .int a3), (4, .int x4), (5, .int x5)]) hx hb dX7_areCrossing_52 hl (by decide) rfl (fun ls hl => ?_)
      refine lv_aload_n hx hb dX7_areCrossing_54 rfl (lv_at hl 3 rfl) ?_
      refine lv_iload_n hx hb dX7_areCrossing_55 rfl (lv_at hl 4 rfl) ?_
      refine lv_aload_n hx hb dX7_areCrossing_56 rfl (lv_at hl 3 rfl) ?_
      refine lv_iload_n hx hb dX7_areCrossing_57 rfl (lv_at hl 5 rfl) ?_
      refine lv_iload hx hb dX7_areCrossing_58 (lv_at hl 1 rfl) ?_
      obtain ⟨r16, h15, hq14, hf⟩ := bnd_ok hf
      refine wk_callSi (As := [.ref (X.2.2.2 a1), .int a3, .int r7]) (rest := [.int a2, .ref (X.2.2.2 a1)]) S hK hN hH (C_X7_changed l X hI t1 a3 r7 _ _ _ hq14) (va_cwS 3 hts (gS wU_in m_796 m_797 m_41 m_798) rfl rfl rfl hdS_X7_changed ⟨Nat.le_of_ble_eq_true rfl, Nat.le_of_ble_eq_true rfl⟩) hl.1 rfl rfl (Nat.le_of_ble_eq_true rfl) dX7_areCrossing_60 ⟨Nat.zero_le _, Nat.zero_le _⟩ (fun H locs hH => ?_)
      obtain ⟨r19, h18, hq17, hf⟩ := bnd_ok hf
      refine wk_callSi (As := [.ref (X.2.2.2 a1), .int a2, .int r16]) (rest := []) S hK hN hH (C_X7_changed l X hI t1 a2 r16 _ _ _ hq17) (va_cwS 3 hts (gS wU_in m_796 m_797 m_41 m_798) rfl rfl rfl hdS_X7_changed ⟨Nat.le_of_ble_eq_true rfl, Nat.le_of_ble_eq_true rfl⟩) hl.1 rfl rfl (Nat.le_of_ble_eq_true rfl) dX7_areCrossing_63 ⟨Nat.zero_le _, Nat.zero_le _⟩ (fun H locs hH => ?_)
      refine lv_istore (lv' := [(8, .int r19), (7, .int r13), (6, .int r7), (0, .ref (X.2.2.2 a0)), (1, .ref (X.2.2.2 a1)), (2, .int a2), (3, .int a3), (4, .int x4), (5, .int x5)]) hx hb dX7_areCrossing_66 hl (by decide) rfl (fun ls hl => ?_)
      refine lv_iload hx hb dX7_areCrossing_68 (lv_at hl 7 rfl) ?_
      refine lv_if_ne (tgt := 80) hx hb dX7_areCrossing_70 (by decide) (fun c20 => ?_) (fun c20 => ?_)
      · replace hf := ite_f c20 hf
        exact B80 k6 hk6 _ _ hf H locs ls (lv_sub hl [3, 4, 5, 6, 8] rfl) hH
      · replace hf := ite_t c20 hf
        refine lv_iload hx hb dX7_areCrossing_73 (lv_at hl 1 rfl) ?_
        refine lv_iload hx hb dX7_areCrossing_75 (lv_at hl 0 rfl) ?_
        refine lv_icmp_eq (tgt := 84) hx hb dX7_areCrossing_77 (by decide) (fun c21 => ?_) (fun c21 => ?_)
        · replace hf := ite_t c21 hf
          refine lv_iconst (v := 0) hx hb dX7_areCrossing_84 (by decide) ?_
          exact B85 k6 hk6 _ _ _ hf H locs ls (lv_sub hl [3, 4, 5, 6, 8] rfl) hH
        · replace hf := ite_f c21 hf
          exact B80 k6 hk6 _ _ hf H locs ls (lv_sub hl [3, 4, 5, 6, 8] rfl) hH
  have BL6 : ∀ (n : Nat) (x4 : Int32) (x5 : Int32) (h : Hp), f_X7_areCrossing_6 a0 a1 a2 a3 n x4 x5 h = some (r0, h0) → BK p l e ({ frames := 3, cells := 0, slots := 0, locals := 66 }) s m args below meth c (MQ below (cQi X r0 h0) args s 0 0 (AD X)) X 9 6 [(0, .ref (X.2.2.2 a0)), (1, .ref (X.2.2.2 a1)), (2, .int a2), (3, .int a3), (4, .int x4), (5, .int x5)] [] h := by
    intro n
    induction n with
    | zero => intro x4 x5 h hf; cases hf
    | succ n ih => intro x4 x5 h hf; exact B6 _ ih _ _ _ hf
  intro H locs ls hl hH
  replace hl : lv_has ls 9 [(0, .ref (X.2.2.2 a0)), (1, .ref (X.2.2.2 a1)), (2, .int a2), (3, .int a3)] := hl
  unfold f_X7_areCrossing at hf
  refine lv_iconst (v := 0) hx hb dX7_areCrossing_0 (by decide) ?_
  refine lv_istore (lv' := [(4, .int ((0 : Int32))), (0, .ref (X.2.2.2 a0)), (1, .ref (X.2.2.2 a1)), (2, .int a2), (3, .int a3)]) hx hb dX7_areCrossing_1 hl (by decide) rfl (fun ls hl => ?_)
  refine lv_iconst (v := 0) hx hb dX7_areCrossing_3 (by decide) ?_
  refine lv_istore (lv' := [(5, .int ((0 : Int32))), (4, .int ((0 : Int32))), (0, .ref (X.2.2.2 a0)), (1, .ref (X.2.2.2 a1)), (2, .int a2), (3, .int a3)]) hx hb dX7_areCrossing_4 hl (by decide) rfl (fun ls hl => ?_)
  exact BL6 FU _ _ _ hf H locs ls (lv_sub hl [2, 3, 4, 5, 1, 0] rfl) hH
set_option maxHeartbeats 4000000 in
set_option maxRecDepth 100000 in
theorem C_X7_cross (l : Launch) (X : Cx) (hI : Inj X) {a0 : Nat} (t0 : tY a0 = 6) (a1 : Int32) (a2 : Int32) (h : Hp) (r0 : Int32) (h0 : Hp) (hf : f_X7_cross a0 a1 a2 h = some (r0, h0)) : Mi l X yX7_cross cX7_cross 3 (some .int) 4 94 h [.ref (X.2.2.2 a0), .int a1, .int a2] r0 h0 := by
  refine BD_of (own := RX7) hI rfl (by decide) (Nat.le_of_ble_eq_true rfl) ?_
  intro p e s m args below meth c S hr hlk hK hN
  obtain ⟨hx, hb, hml, hown, hts⟩ := id S
  intro H locs ls hl hH
  replace hl : lv_has ls 3 [(0, .ref (X.2.2.2 a0)), (1, .int a1), (2, .int a2)] := hl
  unfold f_X7_cross at hf
  refine lv_aload_n hx hb dX7_cross_0 rfl (lv_at hl 0 rfl) ?_
  refine lv_iload_n hx hb dX7_cross_1 rfl (lv_at hl 1 rfl) ?_
  obtain ⟨r3, h2, hq1, hf⟩ := bnd_ok hf
  refine wk_callVi (ci := 6) (b := a0) (As := [.int a1]) (rest := []) S hK hN hH t0 (by decide) rfl (C_X7_isChange l X hI t0 a1 _ _ _ hq1) (cwV 1 hts (gV wU_in m_830 m_832 m_25 m_41 m_833) rfl rfl rfl hdV_X7_isChange ⟨Nat.le_of_ble_eq_true rfl, Nat.le_of_ble_eq_true rfl⟩) hl.1 rfl rfl (Nat.le_of_ble_eq_true rfl) dX7_cross_2 ⟨Nat.zero_le _, Nat.zero_le _⟩ (fun H locs hH => ?_)
  refine lv_if_eq (tgt := 16) hx hb dX7_cross_5 (by decide) (fun c4 => ?_) (fun c4 => ?_)
  · replace hf := ite_t c4 hf
    refine lv_iconst (v := (-1)) hx hb dX7_cross_16 (by decide) ?_
    exact wk_iret S hr hlk hK hN hH hf dX7_cross_17
  · replace hf := ite_f c4 hf
    refine lv_aload_n hx hb dX7_cross_8 rfl (lv_at hl 0 rfl) ?_
    refine lv_iload_n hx hb dX7_cross_9 rfl (lv_at hl 2 rfl) ?_
    obtain ⟨r7, h6, hq5, hf⟩ := bnd_ok hf
    refine wk_callVi (ci := 6) (b := a0) (As := [.int a2]) (rest := []) S hK hN hH t0 (by decide) rfl (C_X7_isChange l X hI t0 a2 _ _ _ hq5) (cwV 1 hts (gV wU_in m_830 m_832 m_25 m_41 m_833) rfl rfl rfl hdV_X7_isChange ⟨Nat.le_of_ble_eq_true rfl, Nat.le_of_ble_eq_true rfl⟩) hl.1 rfl rfl (Nat.le_of_ble_eq_true rfl) dX7_cross_10 ⟨Nat.zero_le _, Nat.zero_le _⟩ (fun H locs hH => ?_)
    refine lv_if_ne (tgt := 18) hx hb dX7_cross_13 (by decide) (fun c8 => ?_) (fun c8 => ?_)
    · replace hf := ite_f c8 hf
      refine lv_aload_n hx hb dX7_cross_18 rfl (lv_at hl 0 rfl) ?_
      refine lv_aload_n hx hb dX7_cross_19 rfl (lv_at hl 0 rfl) ?_
      refine wk_getr (ci := 6) (k := 2) S hK hH j_X7 t0 rfl hq_6_2 (hts _ (wU_in _ m_626)) dX7_cross_20 ?_
      refine lv_iload_n hx hb dX7_cross_23 rfl (lv_at hl 1 rfl) ?_
      refine lv_iload_n hx hb dX7_cross_24 rfl (lv_at hl 2 rfl) ?_
      obtain ⟨r11, h10, hq9, hf⟩ := bnd_ok hf
      refine wk_callVi (ci := 6) (b := a0) (As := [.ref (X.2.2.2 (rF a0 2)), .int a1, .int a2]) (rest := []) S hK hN hH t0 (by decide) rfl (C_X7_areCrossing l X hI t0 (tr_6_2 t0) a1 a2 _ _ _ hq9) (cwV 3 hts (gV wU_in m_891 m_893 m_27 m_41 m_894) rfl rfl rfl hdV_X7_areCrossing ⟨Nat.le_of_ble_eq_true rfl, Nat.le_of_ble_eq_true rfl⟩) hl.1 rfl rfl (Nat.le_of_ble_eq_true rfl) dX7_cross_25 ⟨Nat.zero_le _, Nat.zero_le _⟩ (fun H locs hH => ?_)
      refine lv_if_eq (tgt := 35) hx hb dX7_cross_28 (by decide) (fun c12 => ?_) (fun c12 => ?_)
      · replace hf := ite_t c12 hf
        refine lv_iconst (v := 0) hx hb dX7_cross_35 (by decide) ?_
        exact wk_iret S hr hlk hK hN hH hf dX7_cross_36
      · replace hf := ite_f c12 hf
        refine lv_iconst (v := 1) hx hb dX7_cross_31 (by decide) ?_
        refine lv_goto (tgt := 36) hx hb dX7_cross_32 (by decide) ?_
        exact wk_iret S hr hlk hK hN hH hf dX7_cross_36
    · replace hf := ite_t c8 hf
      refine lv_iconst (v := (-1)) hx hb dX7_cross_16 (by decide) ?_
      exact wk_iret S hr hlk hK hN hH hf dX7_cross_17
set_option maxHeartbeats 4000000 in
set_option maxRecDepth 100000 in
theorem C_X7_changeAt (l : Launch) (X : Cx) (hI : Inj X) {a0 : Nat} (t0 : tY a0 = 6) (a1 : Int32) (a2 : Int32) (h : Hp) (r0 : Int32) (h0 : Hp) (hf : f_X7_changeAt a0 a1 a2 h = some (r0, h0)) : Mi l X yX7_changeAt cX7_changeAt 3 (some .int) 0 0 h [.ref (X.2.2.2 a0), .int a1, .int a2] r0 h0 := by
  refine BD_of (own := RX7) hI rfl (by decide) (Nat.le_of_ble_eq_true rfl) ?_
  intro p e s m args below meth c S hr hlk hK hN
  obtain ⟨hx, hb, hml, hown, hts⟩ := id S
  intro H locs ls hl hH
  replace hl : lv_has ls 3 [(0, .ref (X.2.2.2 a0)), (1, .int a1), (2, .int a2)] := hl
  unfold f_X7_changeAt at hf
  refine lv_iload_n hx hb dX7_changeAt_0 rfl (lv_at hl 1 rfl) ?_
  refine lv_iconst (v := 2) hx hb dX7_changeAt_1 (by decide) ?_
  refine lv_aload_n hx hb dX7_changeAt_2 rfl (lv_at hl 0 rfl) ?_
  refine wk_geti (ci := 6) (k := 13) S hK hH j_X7 t0 rfl hq_6_13 (hts _ (wU_in _ m_637)) dX7_changeAt_3 ?_
  refine lv_iconst (v := 1) hx hb dX7_changeAt_6 (by decide) ?_
  refine lv_isub hx hb dX7_changeAt_7 ?_
  refine lv_iload_n hx hb dX7_changeAt_8 rfl (lv_at hl 2 rfl) ?_
  refine lv_isub hx hb dX7_changeAt_9 ?_
  refine lv_imul hx hb dX7_changeAt_10 ?_
  refine lv_ishr hx hb dX7_changeAt_11 ?_
  refine lv_iconst (v := 3) hx hb dX7_changeAt_12 (by decide) ?_
  refine lv_iand hx hb dX7_changeAt_13 ?_
  exact wk_iret S hr hlk hK hN hH hf dX7_changeAt_14
set_option maxHeartbeats 4000000 in
set_option maxRecDepth 100000 in
theorem C_X7_isOrder (l : Launch) (X : Cx) (hI : Inj X) {a0 : Nat} (t0 : tY a0 = 6) (a1 : Int32) (h : Hp) (r0 : Int32) (h0 : Hp) (hf : f_X7_isOrder a0 a1 h = some (r0, h0)) : Mi l X yX7_isOrder cX7_isOrder 4 (some .boolean) 1 22 h [.ref (X.2.2.2 a0), .int a1] r0 h0 := by
  refine BD_of (own := RX7) hI rfl (by decide) (Nat.le_of_ble_eq_true rfl) ?_
  intro p e s m args below meth c S hr hlk hK hN
  obtain ⟨hx, hb, hml, hown, hts⟩ := id S
  have B4 : ∀ (k4 : Int32 → Int32 → Hp → Option (Int32 × Hp)) (hk4 : ∀ (x2 : Int32) (x3 : Int32) (h : Hp), k4 x2 x3 h = some (r0, h0) → BK p l e ({ frames := 1, cells := 0, slots := 0, locals := 22 }) s m args below meth c (MQ below (cQi X r0 h0) args s 0 0 (AD X)) X 4 4 [(0, .ref (X.2.2.2 a0)), (1, .int a1), (2, .int x2), (3, .int x3)] [] h) (x2 : Int32) (x3 : Int32) (h : Hp), g_X7_isOrder_4 a0 a1 k4 x2 x3 h = some (r0, h0) → BK p l e ({ frames := 1, cells := 0, slots := 0, locals := 22 }) s m args below meth c (MQ below (cQi X r0 h0) args s 0 0 (AD X)) X 4 4 [(0, .ref (X.2.2.2 a0)), (1, .int a1), (2, .int x2), (3, .int x3)] [] h := by
    intro k4 hk4 x2 x3 h hf H locs ls hl hH
    unfold g_X7_isOrder_4 at hf
    refine lv_iload_n hx hb dX7_isOrder_4 rfl (lv_at hl 3 rfl) ?_
    refine lv_aload_n hx hb dX7_isOrder_5 rfl (lv_at hl 0 rfl) ?_
    refine wk_geti (ci := 6) (k := 13) S hK hH j_X7 t0 rfl hq_6_13 (hts _ (wU_in _ m_637)) dX7_isOrder_6 ?_
    refine lv_icmp_ge (tgt := 29) hx hb dX7_isOrder_9 (by decide) (fun c1 => ?_) (fun c1 => ?_)
    · replace hf := ite_t c1 hf
      refine lv_iload_n hx hb dX7_isOrder_29 rfl (lv_at hl 2 rfl) ?_
      refine lv_iconst (v := 1) hx hb dX7_isOrder_30 (by decide) ?_
      refine lv_aload_n hx hb dX7_isOrder_31 rfl (lv_at hl 0 rfl) ?_
      refine wk_geti (ci := 6) (k := 13) S hK hH j_X7 t0 rfl hq_6_13 (hts _ (wU_in _ m_637)) dX7_isOrder_32 ?_
      refine lv_ishl hx hb dX7_isOrder_35 ?_
      refine lv_iconst (v := 1) hx hb dX7_isOrder_36 (by decide) ?_
      refine lv_isub hx hb dX7_isOrder_37 ?_
      refine lv_icmp_ne (tgt := 45) hx hb dX7_isOrder_38 (by decide) (fun c2 => ?_) (fun c2 => ?_)
      · replace hf := ite_f c2 hf
        refine lv_iconst (v := 0) hx hb dX7_isOrder_45 (by decide) ?_
        exact wk_zret S hr hlk hK hN hH rfl hf dX7_isOrder_46
      · replace hf := ite_t c2 hf
        refine lv_iconst (v := 1) hx hb dX7_isOrder_41 (by decide) ?_
        refine lv_goto (tgt := 46) hx hb dX7_isOrder_42 (by decide) ?_
        exact wk_zret S hr hlk hK hN hH rfl hf dX7_isOrder_46
    · replace hf := ite_f c1 hf
      refine lv_iload_n hx hb dX7_isOrder_12 rfl (lv_at hl 2 rfl) ?_
      refine lv_iconst (v := 1) hx hb dX7_isOrder_13 (by decide) ?_
      refine lv_aload_n hx hb dX7_isOrder_14 rfl (lv_at hl 0 rfl) ?_
      refine lv_iload_n hx hb dX7_isOrder_15 rfl (lv_at hl 1 rfl) ?_
      refine lv_iload_n hx hb dX7_isOrder_16 rfl (lv_at hl 3 rfl) ?_
      obtain ⟨r5, h4, hq3, hf⟩ := bnd_ok hf
      refine wk_callVi (ci := 6) (b := a0) (As := [.int a1, .int x3]) (rest := [.int ((1 : Int32)), .int x2]) S hK hN hH t0 (by decide) rfl (C_X7_changeAt l X hI t0 a1 x3 _ _ _ hq3) (cwV 2 hts (gV wU_in m_908 m_910 m_30 m_41 m_911) rfl rfl rfl hdV_X7_changeAt ⟨Nat.le_of_ble_eq_true rfl, Nat.le_of_ble_eq_true rfl⟩) hl.1 rfl rfl (Nat.le_of_ble_eq_true rfl) dX7_isOrder_17 ⟨Nat.zero_le _, Nat.zero_le _⟩ (fun H locs hH => ?_)
      refine lv_ishl hx hb dX7_isOrder_20 ?_
      refine lv_ior hx hb dX7_isOrder_21 ?_
      refine lv_istore_n (lv' := [(2, .int ((x2 ||| ((1 : Int32) <<< (r5 &&& (31 : Int32)))))), (0, .ref (X.2.2.2 a0)), (1, .int a1), (3, .int x3)]) hx hb dX7_isOrder_22 rfl hl (by decide) rfl (fun ls hl => ?_)
      refine lv_iinc (v := (x3 + (1 : Int32))) (lv' := [(3, .int ((x3 + (1 : Int32)))), (2, .int ((x2 ||| ((1 : Int32) <<< (r5 &&& (31 : Int32)))))), (0, .ref (X.2.2.2 a0)), (1, .int a1)]) hx hb dX7_isOrder_23 hl (k := 3) rfl rfl (by decide) rfl (fun ls hl => ?_)
      refine lv_goto (tgt := 4) hx hb dX7_isOrder_26 (by decide) ?_
      exact hk4 _ _ _ hf H locs ls (lv_sub hl [2, 3, 1, 0] rfl) hH
  have BL4 : ∀ (n : Nat) (x2 : Int32) (x3 : Int32) (h : Hp), f_X7_isOrder_4 a0 a1 n x2 x3 h = some (r0, h0) → BK p l e ({ frames := 1, cells := 0, slots := 0, locals := 22 }) s m args below meth c (MQ below (cQi X r0 h0) args s 0 0 (AD X)) X 4 4 [(0, .ref (X.2.2.2 a0)), (1, .int a1), (2, .int x2), (3, .int x3)] [] h := by
    intro n
    induction n with
    | zero => intro x2 x3 h hf; cases hf
    | succ n ih => intro x2 x3 h hf; exact B4 _ ih _ _ _ hf
  intro H locs ls hl hH
  replace hl : lv_has ls 4 [(0, .ref (X.2.2.2 a0)), (1, .int a1)] := hl
  unfold f_X7_isOrder at hf
  refine lv_iconst (v := 0) hx hb dX7_isOrder_0 (by decide) ?_
  refine lv_istore_n (lv' := [(2, .int ((0 : Int32))), (0, .ref (X.2.2.2 a0)), (1, .int a1)]) hx hb dX7_isOrder_1 rfl hl (by decide) rfl (fun ls hl => ?_)
  refine lv_iconst (v := 0) hx hb dX7_isOrder_2 (by decide) ?_
  refine lv_istore_n (lv' := [(3, .int ((0 : Int32))), (2, .int ((0 : Int32))), (0, .ref (X.2.2.2 a0)), (1, .int a1)]) hx hb dX7_isOrder_3 rfl hl (by decide) rfl (fun ls hl => ?_)
  exact BL4 FU _ _ _ hf H locs ls (lv_sub hl [2, 3, 1, 0] rfl) hH
set_option maxHeartbeats 4000000 in
set_option maxRecDepth 100000 in
theorem C_X7_figuresOf (l : Launch) (X : Cx) (hI : Inj X) {a0 : Nat} (t0 : tY a0 = 6) (a1 : Int32) (h : Hp) (r0 : Int32) (h0 : Hp) (hf : f_X7_figuresOf a0 a1 h = some (r0, h0)) : Mi l X yX7_figuresOf cX7_figuresOf 4 (some .int) 1 22 h [.ref (X.2.2.2 a0), .int a1] r0 h0 := by
  refine BD_of (own := RX7) hI rfl (by decide) (Nat.le_of_ble_eq_true rfl) ?_
  intro p e s m args below meth c S hr hlk hK hN
  obtain ⟨hx, hb, hml, hown, hts⟩ := id S
  have B4 : ∀ (k4 : Int32 → Int32 → Hp → Option (Int32 × Hp)) (hk4 : ∀ (x2 : Int32) (x3 : Int32) (h : Hp), k4 x2 x3 h = some (r0, h0) → BK p l e ({ frames := 1, cells := 0, slots := 0, locals := 22 }) s m args below meth c (MQ below (cQi X r0 h0) args s 0 0 (AD X)) X 4 4 [(0, .ref (X.2.2.2 a0)), (1, .int a1), (2, .int x2), (3, .int x3)] [] h) (x2 : Int32) (x3 : Int32) (h : Hp), g_X7_figuresOf_4 a0 a1 k4 x2 x3 h = some (r0, h0) → BK p l e ({ frames := 1, cells := 0, slots := 0, locals := 22 }) s m args below meth c (MQ below (cQi X r0 h0) args s 0 0 (AD X)) X 4 4 [(0, .ref (X.2.2.2 a0)), (1, .int a1), (2, .int x2), (3, .int x3)] [] h := by
    intro k4 hk4 x2 x3 h hf H locs ls hl hH
    unfold g_X7_figuresOf_4 at hf
    refine lv_iload_n hx hb dX7_figuresOf_4 rfl (lv_at hl 3 rfl) ?_
    refine lv_aload_n hx hb dX7_figuresOf_5 rfl (lv_at hl 0 rfl) ?_
    refine wk_geti (ci := 6) (k := 13) S hK hH j_X7 t0 rfl hq_6_13 (hts _ (wU_in _ m_637)) dX7_figuresOf_6 ?_
    refine lv_icmp_ge (tgt := 30) hx hb dX7_figuresOf_9 (by decide) (fun c1 => ?_) (fun c1 => ?_)
    · replace hf := ite_t c1 hf
      refine lv_iload_n hx hb dX7_figuresOf_30 rfl (lv_at hl 2 rfl) ?_
      exact wk_iret S hr hlk hK hN hH hf dX7_figuresOf_31
    · replace hf := ite_f c1 hf
      refine lv_bipush (v := 10) hx hb dX7_figuresOf_12 (by decide) ?_
      refine lv_iload_n hx hb dX7_figuresOf_14 rfl (lv_at hl 2 rfl) ?_
      refine lv_imul hx hb dX7_figuresOf_15 ?_
      refine lv_aload_n hx hb dX7_figuresOf_16 rfl (lv_at hl 0 rfl) ?_
      refine lv_iload_n hx hb dX7_figuresOf_17 rfl (lv_at hl 1 rfl) ?_
      refine lv_iload_n hx hb dX7_figuresOf_18 rfl (lv_at hl 3 rfl) ?_
      obtain ⟨r4, h3, hq2, hf⟩ := bnd_ok hf
      refine wk_callVi (ci := 6) (b := a0) (As := [.int a1, .int x3]) (rest := [.int (((10 : Int32) * x2))]) S hK hN hH t0 (by decide) rfl (C_X7_changeAt l X hI t0 a1 x3 _ _ _ hq2) (cwV 2 hts (gV wU_in m_908 m_910 m_30 m_41 m_911) rfl rfl rfl hdV_X7_changeAt ⟨Nat.le_of_ble_eq_true rfl, Nat.le_of_ble_eq_true rfl⟩) hl.1 rfl rfl (Nat.le_of_ble_eq_true rfl) dX7_figuresOf_19 ⟨Nat.zero_le _, Nat.zero_le _⟩ (fun H locs hH => ?_)
      refine lv_iadd hx hb dX7_figuresOf_22 ?_
      refine lv_istore_n (lv' := [(2, .int ((((10 : Int32) * x2) + r4))), (0, .ref (X.2.2.2 a0)), (1, .int a1), (3, .int x3)]) hx hb dX7_figuresOf_23 rfl hl (by decide) rfl (fun ls hl => ?_)
      refine lv_iinc (v := (x3 + (1 : Int32))) (lv' := [(3, .int ((x3 + (1 : Int32)))), (2, .int ((((10 : Int32) * x2) + r4))), (0, .ref (X.2.2.2 a0)), (1, .int a1)]) hx hb dX7_figuresOf_24 hl (k := 3) rfl rfl (by decide) rfl (fun ls hl => ?_)
      refine lv_goto (tgt := 4) hx hb dX7_figuresOf_27 (by decide) ?_
      exact hk4 _ _ _ hf H locs ls (lv_sub hl [2, 3, 1, 0] rfl) hH
  have BL4 : ∀ (n : Nat) (x2 : Int32) (x3 : Int32) (h : Hp), f_X7_figuresOf_4 a0 a1 n x2 x3 h = some (r0, h0) → BK p l e ({ frames := 1, cells := 0, slots := 0, locals := 22 }) s m args below meth c (MQ below (cQi X r0 h0) args s 0 0 (AD X)) X 4 4 [(0, .ref (X.2.2.2 a0)), (1, .int a1), (2, .int x2), (3, .int x3)] [] h := by
    intro n
    induction n with
    | zero => intro x2 x3 h hf; cases hf
    | succ n ih => intro x2 x3 h hf; exact B4 _ ih _ _ _ hf
  intro H locs ls hl hH
  replace hl : lv_has ls 4 [(0, .ref (X.2.2.2 a0)), (1, .int a1)] := hl
  unfold f_X7_figuresOf at hf
  refine lv_iconst (v := 0) hx hb dX7_figuresOf_0 (by decide) ?_
  refine lv_istore_n (lv' := [(2, .int ((0 : Int32))), (0, .ref (X.2.2.2 a0)), (1, .int a1)]) hx hb dX7_figuresOf_1 rfl hl (by decide) rfl (fun ls hl => ?_)
  refine lv_iconst (v := 0) hx hb dX7_figuresOf_2 (by decide) ?_
  refine lv_istore_n (lv' := [(3, .int ((0 : Int32))), (2, .int ((0 : Int32))), (0, .ref (X.2.2.2 a0)), (1, .int a1)]) hx hb dX7_figuresOf_3 rfl hl (by decide) rfl (fun ls hl => ?_)
  exact BL4 FU _ _ _ hf H locs ls (lv_sub hl [2, 3, 1, 0] rfl) hH
set_option maxHeartbeats 4000000 in
set_option maxRecDepth 100000 in
theorem C_X7_layTrial (l : Launch) (X : Cx) (hI : Inj X) {a0 : Nat} (t0 : tY a0 = 6) (h : Hp) (h0 : Hp) (hf : f_X7_layTrial a0 h = some h0) : Mv l X yX7_layTrial cX7_layTrial 2 none 0 0 h [.ref (X.2.2.2 a0)] h0 := by
  refine BD_of (own := RX7) hI rfl (by decide) (Nat.le_of_ble_eq_true rfl) ?_
  intro p e s m args below meth c S hr hlk hK hN
  obtain ⟨hx, hb, hml, hown, hts⟩ := id S
  have B2 : ∀ (k2 : Int32 → Hp → Option Hp) (hk2 : ∀ (x1 : Int32) (h : Hp), k2 x1 h = some h0 → BK p l e ({ frames := 0, cells := 0, slots := 0, locals := 0 }) s m args below meth c (MQ below (cQv X h0) args s 0 0 (AD X)) X 2 2 [(0, .ref (X.2.2.2 a0)), (1, .int x1)] [] h) (x1 : Int32) (h : Hp), g_X7_layTrial_2 a0 k2 x1 h = some h0 → BK p l e ({ frames := 0, cells := 0, slots := 0, locals := 0 }) s m args below meth c (MQ below (cQv X h0) args s 0 0 (AD X)) X 2 2 [(0, .ref (X.2.2.2 a0)), (1, .int x1)] [] h := by
    intro k2 hk2 x1 h hf H locs ls hl hH
    unfold g_X7_layTrial_2 at hf
    refine lv_iload_n hx hb dX7_layTrial_2 rfl (lv_at hl 1 rfl) ?_
    refine lv_bipush (v := 32) hx hb dX7_layTrial_3 (by decide) ?_
    refine lv_icmp_ge (tgt := 26) hx hb dX7_layTrial_5 (by decide) (fun c1 => ?_) (fun c1 => ?_)
    · replace hf := ite_t c1 hf
      exact wk_vret S hr hlk hK hN hH hf dX7_layTrial_26
    · replace hf := ite_f c1 hf
      refine lv_aload_n hx hb dX7_layTrial_8 rfl (lv_at hl 0 rfl) ?_
      refine wk_getr (ci := 6) (k := 3) S hK hH j_X7 t0 rfl hq_6_3 (hts _ (wU_in _ m_627)) dX7_layTrial_9 ?_
      refine lv_iload_n hx hb dX7_layTrial_12 rfl (lv_at hl 1 rfl) ?_
      refine lv_aload_n hx hb dX7_layTrial_13 rfl (lv_at hl 0 rfl) ?_
      refine wk_getr (ci := 6) (k := 2) S hK hH j_X7 t0 rfl hq_6_2 (hts _ (wU_in _ m_626)) dX7_layTrial_14 ?_
      refine lv_iload_n hx hb dX7_layTrial_17 rfl (lv_at hl 1 rfl) ?_
      obtain ⟨o2, hf⟩ := ite_ok hf
      refine wk_iald S hK hH (tr_6_2 t0) o2 dX7_layTrial_18 ?_
      obtain ⟨o3, hf⟩ := ite_ok hf
      refine wk_iast S hK hH (tr_6_3 t0) o3 dX7_layTrial_19 (fun H locs hH => ?_)
      refine lv_iinc (v := (x1 + (1 : Int32))) (lv' := [(1, .int ((x1 + (1 : Int32)))), (0, .ref (X.2.2.2 a0))]) hx hb dX7_layTrial_20 hl (k := 1) rfl rfl (by decide) rfl (fun ls hl => ?_)
      refine lv_goto (tgt := 2) hx hb dX7_layTrial_23 (by decide) ?_
      exact hk2 _ _ hf H locs ls (lv_sub hl [1, 0] rfl) hH
  have BL2 : ∀ (n : Nat) (x1 : Int32) (h : Hp), f_X7_layTrial_2 a0 n x1 h = some h0 → BK p l e ({ frames := 0, cells := 0, slots := 0, locals := 0 }) s m args below meth c (MQ below (cQv X h0) args s 0 0 (AD X)) X 2 2 [(0, .ref (X.2.2.2 a0)), (1, .int x1)] [] h := by
    intro n
    induction n with
    | zero => intro x1 h hf; cases hf
    | succ n ih => intro x1 h hf; exact B2 _ ih _ _ hf
  intro H locs ls hl hH
  replace hl : lv_has ls 2 [(0, .ref (X.2.2.2 a0))] := hl
  unfold f_X7_layTrial at hf
  refine lv_iconst (v := 0) hx hb dX7_layTrial_0 (by decide) ?_
  refine lv_istore_n (lv' := [(1, .int ((0 : Int32))), (0, .ref (X.2.2.2 a0))]) hx hb dX7_layTrial_1 rfl hl (by decide) rfl (fun ls hl => ?_)
  exact BL2 FU _ _ hf H locs ls (lv_sub hl [1, 0] rfl) hH
set_option maxHeartbeats 4000000 in
set_option maxRecDepth 100000 in
theorem C_X7_best (l : Launch) (X : Cx) (hI : Inj X) {a0 : Nat} (t0 : tY a0 = 6) (a1 : Int32) (h : Hp) (r0 : Int32) (h0 : Hp) (hf : f_X7_best a0 a1 h = some (r0, h0)) : Mi l X yX7_best cX7_best 8 (some .int) 5 125 h [.ref (X.2.2.2 a0), .int a1] r0 h0 := by
  refine BD_of (own := RX7) hI rfl (by decide) (Nat.le_of_ble_eq_true rfl) ?_
  intro p e s m args below meth c S hr hlk hK hN
  obtain ⟨hx, hb, hml, hown, hts⟩ := id S
  have B168 : ∀ (k30 : Int32 → Int32 → Int32 → Int32 → Hp → Option (Int32 × Hp)) (hk30 : ∀ (x2 : Int32) (x3 : Int32) (x4 : Int32) (x5 : Int32) (h : Hp), k30 x2 x3 x4 x5 h = some (r0, h0) → BK p l e ({ frames := 5, cells := 0, slots := 0, locals := 125 }) s m args below meth c (MQ below (cQi X r0 h0) args s 0 0 (AD X)) X 8 30 [(0, .ref (X.2.2.2 a0)), (1, .int a1), (2, .int x2), (3, .int x3), (4, .int x4), (5, .int x5)] [] h) (x2 : Int32) (x3 : Int32) (x4 : Int32) (x5 : Int32) (h : Hp), g_X7_best_168 a0 a1 k30 x2 x3 x4 x5 h = some (r0, h0) → BK p l e ({ frames := 5, cells := 0, slots := 0, locals := 125 }) s m args below meth c (MQ below (cQi X r0 h0) args s 0 0 (AD X)) X 8 168 [(0, .ref (X.2.2.2 a0)), (1, .int a1), (2, .int x2), (3, .int x3), (4, .int x4), (5, .int x5)] [] h := by
    intro k30 hk30 x2 x3 x4 x5 h hf H locs ls hl hH
    unfold g_X7_best_168 at hf
    refine lv_iinc (v := (x5 + (1 : Int32))) (lv' := [(5, .int ((x5 + (1 : Int32)))), (0, .ref (X.2.2.2 a0)), (1, .int a1), (2, .int x2), (3, .int x3), (4, .int x4)]) hx hb dX7_best_168 hl (k := 5) rfl rfl (by decide) rfl (fun ls hl => ?_)
    refine lv_goto (tgt := 30) hx hb dX7_best_171 (by decide) ?_
    exact hk30 _ _ _ _ _ hf H locs ls (lv_sub hl [1, 2, 3, 4, 5, 0] rfl) hH
  have B167 : ∀ (k30 : Int32 → Int32 → Int32 → Int32 → Hp → Option (Int32 × Hp)) (hk30 : ∀ (x2 : Int32) (x3 : Int32) (x4 : Int32) (x5 : Int32) (h : Hp), k30 x2 x3 x4 x5 h = some (r0, h0) → BK p l e ({ frames := 5, cells := 0, slots := 0, locals := 125 }) s m args below meth c (MQ below (cQi X r0 h0) args s 0 0 (AD X)) X 8 30 [(0, .ref (X.2.2.2 a0)), (1, .int a1), (2, .int x2), (3, .int x3), (4, .int x4), (5, .int x5)] [] h) (x3 : Int32) (x4 : Int32) (x5 : Int32) (z0 : Int32) (h : Hp), g_X7_best_167 a0 a1 k30 x3 x4 x5 z0 h = some (r0, h0) → BK p l e ({ frames := 5, cells := 0, slots := 0, locals := 125 }) s m args below meth c (MQ below (cQi X r0 h0) args s 0 0 (AD X)) X 8 167 [(0, .ref (X.2.2.2 a0)), (1, .int a1), (3, .int x3), (4, .int x4), (5, .int x5)] [.int z0] h := by
    intro k30 hk30 x3 x4 x5 z0 h hf H locs ls hl hH
    unfold g_X7_best_167 at hf
    refine lv_istore_n (lv' := [(2, .int z0), (0, .ref (X.2.2.2 a0)), (1, .int a1), (3, .int x3), (4, .int x4), (5, .int x5)]) hx hb dX7_best_167 rfl hl (by decide) rfl (fun ls hl => ?_)
    exact B168 k30 hk30 _ _ _ _ _ hf H locs ls (lv_sub hl [1, 2, 0, 3, 4, 5] rfl) hH
  have B154 : ∀ (k30 : Int32 → Int32 → Int32 → Int32 → Hp → Option (Int32 × Hp)) (hk30 : ∀ (x2 : Int32) (x3 : Int32) (x4 : Int32) (x5 : Int32) (h : Hp), k30 x2 x3 x4 x5 h = some (r0, h0) → BK p l e ({ frames := 5, cells := 0, slots := 0, locals := 125 }) s m args below meth c (MQ below (cQi X r0 h0) args s 0 0 (AD X)) X 8 30 [(0, .ref (X.2.2.2 a0)), (1, .int a1), (2, .int x2), (3, .int x3), (4, .int x4), (5, .int x5)] [] h) (x2 : Int32) (x3 : Int32) (x5 : Int32) (x6 : Int32) (x7 : Int32) (z0 : Int32) (h : Hp), g_X7_best_154 a0 a1 k30 x2 x3 x5 x6 x7 z0 h = some (r0, h0) → BK p l e ({ frames := 5, cells := 0, slots := 0, locals := 125 }) s m args below meth c (MQ below (cQi X r0 h0) args s 0 0 (AD X)) X 8 154 [(0, .ref (X.2.2.2 a0)), (1, .int a1), (2, .int x2), (3, .int x3), (5, .int x5), (6, .int x6), (7, .int x7)] [.int z0] h := by
    intro k30 hk30 x2 x3 x5 x6 x7 z0 h hf H locs ls hl hH
    unfold g_X7_best_154 at hf
    refine lv_istore (lv' := [(4, .int z0), (0, .ref (X.2.2.2 a0)), (1, .int a1), (2, .int x2), (3, .int x3), (5, .int x5), (6, .int x6), (7, .int x7)]) hx hb dX7_best_154 hl (by decide) rfl (fun ls hl => ?_)
    refine lv_iload hx hb dX7_best_156 (lv_at hl 7 rfl) ?_
    refine lv_if_eq (tgt := 166) hx hb dX7_best_158 (by decide) (fun c1 => ?_) (fun c1 => ?_)
    · replace hf := ite_t c1 hf
      refine lv_iload_n hx hb dX7_best_166 rfl (lv_at hl 3 rfl) ?_
      exact B167 k30 hk30 _ _ _ _ _ hf H locs ls (lv_sub hl [1, 2, 4, 0, 5] rfl) hH
    · replace hf := ite_f c1 hf
      refine lv_iload hx hb dX7_best_161 (lv_at hl 6 rfl) ?_
      refine lv_goto (tgt := 167) hx hb dX7_best_163 (by decide) ?_
      exact B167 k30 hk30 _ _ _ _ _ hf H locs ls (lv_sub hl [1, 2, 4, 0, 5] rfl) hH
  have B129 : ∀ (k30 : Int32 → Int32 → Int32 → Int32 → Hp → Option (Int32 × Hp)) (hk30 : ∀ (x2 : Int32) (x3 : Int32) (x4 : Int32) (x5 : Int32) (h : Hp), k30 x2 x3 x4 x5 h = some (r0, h0) → BK p l e ({ frames := 5, cells := 0, slots := 0, locals := 125 }) s m args below meth c (MQ below (cQi X r0 h0) args s 0 0 (AD X)) X 8 30 [(0, .ref (X.2.2.2 a0)), (1, .int a1), (2, .int x2), (3, .int x3), (4, .int x4), (5, .int x5)] [] h) (x2 : Int32) (x4 : Int32) (x5 : Int32) (x6 : Int32) (x7 : Int32) (z0 : Int32) (h : Hp), g_X7_best_129 a0 a1 k30 x2 x4 x5 x6 x7 z0 h = some (r0, h0) → BK p l e ({ frames := 5, cells := 0, slots := 0, locals := 125 }) s m args below meth c (MQ below (cQi X r0 h0) args s 0 0 (AD X)) X 8 129 [(0, .ref (X.2.2.2 a0)), (1, .int a1), (2, .int x2), (4, .int x4), (5, .int x5), (6, .int x6), (7, .int x7)] [.int z0] h := by
    intro k30 hk30 x2 x4 x5 x6 x7 z0 h hf H locs ls hl hH
    unfold g_X7_best_129 at hf
    refine lv_istore_n (lv' := [(3, .int z0), (0, .ref (X.2.2.2 a0)), (1, .int a1), (2, .int x2), (4, .int x4), (5, .int x5), (6, .int x6), (7, .int x7)]) hx hb dX7_best_129 rfl hl (by decide) rfl (fun ls hl => ?_)
    refine lv_iload hx hb dX7_best_130 (lv_at hl 7 rfl) ?_
    refine lv_if_eq (tgt := 139) hx hb dX7_best_132 (by decide) (fun c2 => ?_) (fun c2 => ?_)
    · replace hf := ite_t c2 hf
      refine lv_iload hx hb dX7_best_139 (lv_at hl 6 rfl) ?_
      refine lv_iload_n hx hb dX7_best_141 rfl (lv_at hl 3 rfl) ?_
      refine lv_icmp_ne (tgt := 152) hx hb dX7_best_142 (by decide) (fun c3 => ?_) (fun c3 => ?_)
      · replace hf := ite_f c3 hf
        refine lv_iload hx hb dX7_best_152 (lv_at hl 4 rfl) ?_
        exact B154 k30 hk30 _ _ _ _ _ _ _ hf H locs ls (lv_sub hl [1, 2, 3, 0, 5, 6, 7] rfl) hH
      · replace hf := ite_t c3 hf
        refine lv_iload hx hb dX7_best_145 (lv_at hl 4 rfl) ?_
        refine lv_iconst (v := 1) hx hb dX7_best_147 (by decide) ?_
        refine lv_iadd hx hb dX7_best_148 ?_
        refine lv_goto (tgt := 154) hx hb dX7_best_149 (by decide) ?_
        exact B154 k30 hk30 _ _ _ _ _ _ _ hf H locs ls (lv_sub hl [1, 2, 3, 0, 5, 6, 7] rfl) hH
    · replace hf := ite_f c2 hf
      refine lv_iconst (v := 1) hx hb dX7_best_135 (by decide) ?_
      refine lv_goto (tgt := 154) hx hb dX7_best_136 (by decide) ?_
      exact B154 k30 hk30 _ _ _ _ _ _ _ hf H locs ls (lv_sub hl [1, 2, 3, 0, 5, 6, 7] rfl) hH
  have B112 : ∀ (k30 : Int32 → Int32 → Int32 → Int32 → Hp → Option (Int32 × Hp)) (hk30 : ∀ (x2 : Int32) (x3 : Int32) (x4 : Int32) (x5 : Int32) (h : Hp), k30 x2 x3 x4 x5 h = some (r0, h0) → BK p l e ({ frames := 5, cells := 0, slots := 0, locals := 125 }) s m args below meth c (MQ below (cQi X r0 h0) args s 0 0 (AD X)) X 8 30 [(0, .ref (X.2.2.2 a0)), (1, .int a1), (2, .int x2), (3, .int x3), (4, .int x4), (5, .int x5)] [] h) (x2 : Int32) (x3 : Int32) (x4 : Int32) (x5 : Int32) (x6 : Int32) (z0 : Int32) (h : Hp), g_X7_best_112 a0 a1 k30 x2 x3 x4 x5 x6 z0 h = some (r0, h0) → BK p l e ({ frames := 5, cells := 0, slots := 0, locals := 125 }) s m args below meth c (MQ below (cQi X r0 h0) args s 0 0 (AD X)) X 8 112 [(0, .ref (X.2.2.2 a0)), (1, .int a1), (2, .int x2), (3, .int x3), (4, .int x4), (5, .int x5), (6, .int x6)] [.int z0] h := by
    intro k30 hk30 x2 x3 x4 x5 x6 z0 h hf H locs ls hl hH
    unfold g_X7_best_112 at hf
    refine lv_istore (lv' := [(7, .int z0), (0, .ref (X.2.2.2 a0)), (1, .int a1), (2, .int x2), (3, .int x3), (4, .int x4), (5, .int x5), (6, .int x6)]) hx hb dX7_best_112 hl (by decide) rfl (fun ls hl => ?_)
    refine lv_iload hx hb dX7_best_114 (lv_at hl 0 rfl) ?_
    refine lv_if_eq (tgt := 128) hx hb dX7_best_116 (by decide) (fun c4 => ?_) (fun c4 => ?_)
    · replace hf := ite_t c4 hf
      refine lv_iload_n hx hb dX7_best_128 rfl (lv_at hl 4 rfl) ?_
      exact B129 k30 hk30 _ _ _ _ _ _ _ hf H locs ls (lv_sub hl [1, 2, 3, 5, 6, 7, 0] rfl) hH
    · replace hf := ite_f c4 hf
      refine lv_aload_n hx hb dX7_best_119 rfl (lv_at hl 1 rfl) ?_
      refine lv_iload hx hb dX7_best_120 (lv_at hl 6 rfl) ?_
      obtain ⟨r7, h6, hq5, hf⟩ := bnd_ok hf
      refine wk_callVi (ci := 6) (b := a0) (As := [.int x5]) (rest := []) S hK hN hH t0 (by decide) rfl (C_X7_figuresOf l X hI t0 x5 _ _ _ hq5) (cwV 1 hts (gV wU_in m_912 m_914 m_31 m_41 m_915) rfl rfl rfl hdV_X7_figuresOf ⟨Nat.le_of_ble_eq_true rfl, Nat.le_of_ble_eq_true rfl⟩) hl.1 rfl rfl (Nat.le_of_ble_eq_true rfl) dX7_best_122 ⟨Nat.zero_le _, Nat.zero_le _⟩ (fun H locs hH => ?_)
      refine lv_goto (tgt := 129) hx hb dX7_best_125 (by decide) ?_
      exact B129 k30 hk30 _ _ _ _ _ _ _ hf H locs ls (lv_sub hl [1, 2, 3, 5, 6, 7, 0] rfl) hH
  have B107 : ∀ (k30 : Int32 → Int32 → Int32 → Int32 → Hp → Option (Int32 × Hp)) (hk30 : ∀ (x2 : Int32) (x3 : Int32) (x4 : Int32) (x5 : Int32) (h : Hp), k30 x2 x3 x4 x5 h = some (r0, h0) → BK p l e ({ frames := 5, cells := 0, slots := 0, locals := 125 }) s m args below meth c (MQ below (cQi X r0 h0) args s 0 0 (AD X)) X 8 30 [(0, .ref (X.2.2.2 a0)), (1, .int a1), (2, .int x2), (3, .int x3), (4, .int x4), (5, .int x5)] [] h) (x2 : Int32) (x3 : Int32) (x4 : Int32) (x5 : Int32) (x6 : Int32) (h : Hp), g_X7_best_107 a0 a1 k30 x2 x3 x4 x5 x6 h = some (r0, h0) → BK p l e ({ frames := 5, cells := 0, slots := 0, locals := 125 }) s m args below meth c (MQ below (cQi X r0 h0) args s 0 0 (AD X)) X 8 107 [(0, .ref (X.2.2.2 a0)), (1, .int a1), (2, .int x2), (3, .int x3), (4, .int x4), (5, .int x5), (6, .int x6)] [] h := by
    intro k30 hk30 x2 x3 x4 x5 x6 h hf H locs ls hl hH
    unfold g_X7_best_107 at hf
    refine lv_iconst (v := 1) hx hb dX7_best_107 (by decide) ?_
    refine lv_goto (tgt := 112) hx hb dX7_best_108 (by decide) ?_
    exact B112 k30 hk30 _ _ _ _ _ _ _ hf H locs ls (lv_sub hl [0, 1, 2, 3, 4, 5, 6] rfl) hH
  have B55 : ∀ (k30 : Int32 → Int32 → Int32 → Int32 → Hp → Option (Int32 × Hp)) (hk30 : ∀ (x2 : Int32) (x3 : Int32) (x4 : Int32) (x5 : Int32) (h : Hp), k30 x2 x3 x4 x5 h = some (r0, h0) → BK p l e ({ frames := 5, cells := 0, slots := 0, locals := 125 }) s m args below meth c (MQ below (cQi X r0 h0) args s 0 0 (AD X)) X 8 30 [(0, .ref (X.2.2.2 a0)), (1, .int a1), (2, .int x2), (3, .int x3), (4, .int x4), (5, .int x5)] [] h) (k55 : Int32 → Int32 → Int32 → Int32 → Int32 → Hp → Option (Int32 × Hp)) (hk55 : ∀ (x2 : Int32) (x3 : Int32) (x4 : Int32) (x5 : Int32) (x6 : Int32) (h : Hp), k55 x2 x3 x4 x5 x6 h = some (r0, h0) → BK p l e ({ frames := 5, cells := 0, slots := 0, locals := 125 }) s m args below meth c (MQ below (cQi X r0 h0) args s 0 0 (AD X)) X 8 55 [(0, .ref (X.2.2.2 a0)), (1, .int a1), (2, .int x2), (3, .int x3), (4, .int x4), (5, .int x5), (6, .int x6)] [] h) (x2 : Int32) (x3 : Int32) (x4 : Int32) (x5 : Int32) (x6 : Int32) (h : Hp), g_X7_best_55 a0 a1 k30 k55 x2 x3 x4 x5 x6 h = some (r0, h0) → BK p l e ({ frames := 5, cells := 0, slots := 0, locals := 125 }) s m args below meth c (MQ below (cQi X r0 h0) args s 0 0 (AD X)) X 8 55 [(0, .ref (X.2.2.2 a0)), (1, .int a1), (2, .int x2), (3, .int x3), (4, .int x4), (5, .int x5), (6, .int x6)] [] h := by
    intro k30 hk30 k55 hk55 x2 x3 x4 x5 x6 h hf H locs ls hl hH
    unfold g_X7_best_55 at hf
    refine lv_iload hx hb dX7_best_55 (lv_at hl 6 rfl) ?_
    refine lv_aload_n hx hb dX7_best_57 rfl (lv_at hl 0 rfl) ?_
    refine wk_geti (ci := 6) (k := 13) S hK hH j_X7 t0 rfl hq_6_13 (hts _ (wU_in _ m_637)) dX7_best_58 ?_
    refine lv_icmp_ge (tgt := 85) hx hb dX7_best_61 (by decide) (fun c8 => ?_) (fun c8 => ?_)
    · replace hf := ite_t c8 hf
      refine lv_aload_n hx hb dX7_best_85 rfl (lv_at hl 0 rfl) ?_
      refine lv_aload_n hx hb dX7_best_86 rfl (lv_at hl 0 rfl) ?_
      refine wk_getr (ci := 6) (k := 3) S hK hH j_X7 t0 rfl hq_6_3 (hts _ (wU_in _ m_627)) dX7_best_87 ?_
      obtain ⟨r11, h10, hq9, hf⟩ := bnd_ok hf
      refine wk_callVi (ci := 6) (b := a0) (As := [.ref (X.2.2.2 (rF a0 3))]) (rest := []) S hK hN hH t0 (by decide) rfl (C_X7_exceptions l X hI t0 (tr_6_3 t0) _ _ _ hq9) (cwV 1 hts (gV wU_in m_806 m_808 m_21 m_41 m_809) rfl rfl rfl hdV_X7_exceptions ⟨Nat.le_of_ble_eq_true rfl, Nat.le_of_ble_eq_true rfl⟩) hl.1 rfl rfl (Nat.le_of_ble_eq_true rfl) dX7_best_90 ⟨Nat.zero_le _, Nat.zero_le _⟩ (fun H locs hH => ?_)
      refine lv_istore (lv' := [(6, .int r11), (0, .ref (X.2.2.2 a0)), (1, .int a1), (2, .int x2), (3, .int x3), (4, .int x4), (5, .int x5)]) hx hb dX7_best_93 hl (by decide) rfl (fun ls hl => ?_)
      refine lv_iload_n hx hb dX7_best_95 rfl (lv_at hl 3 rfl) ?_
      refine lv_bipush (v := (-9)) hx hb dX7_best_96 (by decide) ?_
      refine lv_icmp_eq (tgt := 107) hx hb dX7_best_98 (by decide) (fun c12 => ?_) (fun c12 => ?_)
      · replace hf := ite_t c12 hf
        exact B107 k30 hk30 _ _ _ _ _ _ hf H locs ls (lv_sub hl [1, 2, 3, 4, 5, 6, 0] rfl) hH
      · replace hf := ite_f c12 hf
        refine lv_iload hx hb dX7_best_101 (lv_at hl 0 rfl) ?_
        refine lv_iload_n hx hb dX7_best_103 rfl (lv_at hl 3 rfl) ?_
        refine lv_icmp_ge (tgt := 111) hx hb dX7_best_104 (by decide) (fun c13 => ?_) (fun c13 => ?_)
        · replace hf := ite_t c13 hf
          refine lv_iconst (v := 0) hx hb dX7_best_111 (by decide) ?_
          exact B112 k30 hk30 _ _ _ _ _ _ _ hf H locs ls (lv_sub hl [1, 2, 3, 4, 5, 6, 0] rfl) hH
        · replace hf := ite_f c13 hf
          exact B107 k30 hk30 _ _ _ _ _ _ hf H locs ls (lv_sub hl [1, 2, 3, 4, 5, 6, 0] rfl) hH
    · replace hf := ite_f c8 hf
      refine lv_aload_n hx hb dX7_best_64 rfl (lv_at hl 0 rfl) ?_
      refine wk_getr (ci := 6) (k := 3) S hK hH j_X7 t0 rfl hq_6_3 (hts _ (wU_in _ m_627)) dX7_best_65 ?_
      refine lv_iload hx hb dX7_best_68 (lv_at hl 6 rfl) ?_
      refine lv_aload_n hx hb dX7_best_70 rfl (lv_at hl 0 rfl) ?_
      refine lv_iload hx hb dX7_best_71 (lv_at hl 5 rfl) ?_
      refine lv_iload hx hb dX7_best_73 (lv_at hl 6 rfl) ?_
      obtain ⟨r16, h15, hq14, hf⟩ := bnd_ok hf
      refine wk_callVi (ci := 6) (b := a0) (As := [.int x5, .int x6]) (rest := [.int x6, .ref (X.2.2.2 (rF a0 3))]) S hK hN hH t0 (by decide) rfl (C_X7_changeAt l X hI t0 x5 x6 _ _ _ hq14) (cwV 2 hts (gV wU_in m_908 m_910 m_30 m_41 m_911) rfl rfl rfl hdV_X7_changeAt ⟨Nat.le_of_ble_eq_true rfl, Nat.le_of_ble_eq_true rfl⟩) hl.1 rfl rfl (Nat.le_of_ble_eq_true rfl) dX7_best_75 ⟨Nat.zero_le _, Nat.zero_le _⟩ (fun H locs hH => ?_)
      obtain ⟨o17, hf⟩ := ite_ok hf
      refine wk_iast S hK hH (tr_6_3 t0) o17 dX7_best_78 (fun H locs hH => ?_)
      refine lv_iinc (v := (x6 + (1 : Int32))) (lv' := [(6, .int ((x6 + (1 : Int32)))), (0, .ref (X.2.2.2 a0)), (1, .int a1), (2, .int x2), (3, .int x3), (4, .int x4), (5, .int x5)]) hx hb dX7_best_79 hl (k := 6) rfl rfl (by decide) rfl (fun ls hl => ?_)
      refine lv_goto (tgt := 55) hx hb dX7_best_82 (by decide) ?_
      exact hk55 _ _ _ _ _ _ hf H locs ls (lv_sub hl [1, 2, 3, 4, 5, 6, 0] rfl) hH
  have BL55 : ∀ (k30 : Int32 → Int32 → Int32 → Int32 → Hp → Option (Int32 × Hp)) (hk30 : ∀ (x2 : Int32) (x3 : Int32) (x4 : Int32) (x5 : Int32) (h : Hp), k30 x2 x3 x4 x5 h = some (r0, h0) → BK p l e ({ frames := 5, cells := 0, slots := 0, locals := 125 }) s m args below meth c (MQ below (cQi X r0 h0) args s 0 0 (AD X)) X 8 30 [(0, .ref (X.2.2.2 a0)), (1, .int a1), (2, .int x2), (3, .int x3), (4, .int x4), (5, .int x5)] [] h) (n : Nat) (x2 : Int32) (x3 : Int32) (x4 : Int32) (x5 : Int32) (x6 : Int32) (h : Hp), f_X7_best_55 a0 a1 k30 n x2 x3 x4 x5 x6 h = some (r0, h0) → BK p l e ({ frames := 5, cells := 0, slots := 0, locals := 125 }) s m args below meth c (MQ below (cQi X r0 h0) args s 0 0 (AD X)) X 8 55 [(0, .ref (X.2.2.2 a0)), (1, .int a1), (2, .int x2), (3, .int x3), (4, .int x4), (5, .int x5), (6, .int x6)] [] h := by
    intro k30 hk30 n
    induction n with
    | zero => intro x2 x3 x4 x5 x6 h hf; cases hf
    | succ n ih => intro x2 x3 x4 x5 x6 h hf; exact B55 k30 hk30 _ ih _ _ _ _ _ _ hf
  have B30 : ∀ (k30 : Int32 → Int32 → Int32 → Int32 → Hp → Option (Int32 × Hp)) (hk30 : ∀ (x2 : Int32) (x3 : Int32) (x4 : Int32) (x5 : Int32) (h : Hp), k30 x2 x3 x4 x5 h = some (r0, h0) → BK p l e ({ frames := 5, cells := 0, slots := 0, locals := 125 }) s m args below meth c (MQ below (cQi X r0 h0) args s 0 0 (AD X)) X 8 30 [(0, .ref (X.2.2.2 a0)), (1, .int a1), (2, .int x2), (3, .int x3), (4, .int x4), (5, .int x5)] [] h) (x2 : Int32) (x3 : Int32) (x4 : Int32) (x5 : Int32) (h : Hp), g_X7_best_30 a0 a1 k30 x2 x3 x4 x5 h = some (r0, h0) → BK p l e ({ frames := 5, cells := 0, slots := 0, locals := 125 }) s m args below meth c (MQ below (cQi X r0 h0) args s 0 0 (AD X)) X 8 30 [(0, .ref (X.2.2.2 a0)), (1, .int a1), (2, .int x2), (3, .int x3), (4, .int x4), (5, .int x5)] [] h := by
    intro k30 hk30 x2 x3 x4 x5 h hf H locs ls hl hH
    unfold g_X7_best_30 at hf
    refine lv_iload hx hb dX7_best_30 (lv_at hl 5 rfl) ?_
    refine lv_iconst (v := 1) hx hb dX7_best_32 (by decide) ?_
    refine lv_iconst (v := 2) hx hb dX7_best_33 (by decide) ?_
    refine lv_aload_n hx hb dX7_best_34 rfl (lv_at hl 0 rfl) ?_
    refine wk_geti (ci := 6) (k := 13) S hK hH j_X7 t0 rfl hq_6_13 (hts _ (wU_in _ m_637)) dX7_best_35 ?_
    refine lv_imul hx hb dX7_best_38 ?_
    refine lv_ishl hx hb dX7_best_39 ?_
    refine lv_icmp_ge (tgt := 174) hx hb dX7_best_40 (by decide) (fun c18 => ?_) (fun c18 => ?_)
    · replace hf := ite_t c18 hf
      refine lv_iload_n hx hb dX7_best_174 rfl (lv_at hl 1 rfl) ?_
      refine lv_if_ne (tgt := 182) hx hb dX7_best_175 (by decide) (fun c19 => ?_) (fun c19 => ?_)
      · replace hf := ite_f c19 hf
        refine lv_iload_n hx hb dX7_best_182 rfl (lv_at hl 1 rfl) ?_
        refine lv_iconst (v := 1) hx hb dX7_best_183 (by decide) ?_
        refine lv_icmp_ne (tgt := 191) hx hb dX7_best_184 (by decide) (fun c20 => ?_) (fun c20 => ?_)
        · replace hf := ite_f c20 hf
          refine lv_iload hx hb dX7_best_191 (lv_at hl 4 rfl) ?_
          exact wk_iret S hr hlk hK hN hH hf dX7_best_193
        · replace hf := ite_t c20 hf
          refine lv_iload_n hx hb dX7_best_187 rfl (lv_at hl 3 rfl) ?_
          refine lv_goto (tgt := 193) hx hb dX7_best_188 (by decide) ?_
          exact wk_iret S hr hlk hK hN hH hf dX7_best_193
      · replace hf := ite_t c19 hf
        refine lv_iload_n hx hb dX7_best_178 rfl (lv_at hl 2 rfl) ?_
        refine lv_goto (tgt := 193) hx hb dX7_best_179 (by decide) ?_
        exact wk_iret S hr hlk hK hN hH hf dX7_best_193
    · replace hf := ite_f c18 hf
      refine lv_aload_n hx hb dX7_best_43 rfl (lv_at hl 0 rfl) ?_
      refine lv_iload hx hb dX7_best_44 (lv_at hl 5 rfl) ?_
      obtain ⟨r23, h22, hq21, hf⟩ := bnd_ok hf
      refine wk_callVi (ci := 6) (b := a0) (As := [.int x5]) (rest := []) S hK hN hH t0 (by decide) rfl (C_X7_isOrder l X hI t0 x5 _ _ _ hq21) (cwV 1 hts (gV wU_in m_904 m_906 m_29 m_41 m_907) rfl rfl rfl hdV_X7_isOrder ⟨Nat.le_of_ble_eq_true rfl, Nat.le_of_ble_eq_true rfl⟩) hl.1 rfl rfl (Nat.le_of_ble_eq_true rfl) dX7_best_46 ⟨Nat.zero_le _, Nat.zero_le _⟩ (fun H locs hH => ?_)
      refine lv_if_eq (tgt := 168) hx hb dX7_best_49 (by decide) (fun c24 => ?_) (fun c24 => ?_)
      · replace hf := ite_t c24 hf
        exact B168 k30 hk30 _ _ _ _ _ hf H locs ls (lv_sub hl [0, 1, 2, 3, 4, 5] rfl) hH
      · replace hf := ite_f c24 hf
        refine lv_iconst (v := 0) hx hb dX7_best_52 (by decide) ?_
        refine lv_istore (lv' := [(6, .int ((0 : Int32))), (0, .ref (X.2.2.2 a0)), (1, .int a1), (2, .int x2), (3, .int x3), (4, .int x4), (5, .int x5)]) hx hb dX7_best_53 hl (by decide) rfl (fun ls hl => ?_)
        exact BL55 k30 hk30 FU _ _ _ _ _ _ hf H locs ls (lv_sub hl [1, 2, 3, 4, 5, 6, 0] rfl) hH
  have BL30 : ∀ (n : Nat) (x2 : Int32) (x3 : Int32) (x4 : Int32) (x5 : Int32) (h : Hp), f_X7_best_30 a0 a1 n x2 x3 x4 x5 h = some (r0, h0) → BK p l e ({ frames := 5, cells := 0, slots := 0, locals := 125 }) s m args below meth c (MQ below (cQi X r0 h0) args s 0 0 (AD X)) X 8 30 [(0, .ref (X.2.2.2 a0)), (1, .int a1), (2, .int x2), (3, .int x3), (4, .int x4), (5, .int x5)] [] h := by
    intro n
    induction n with
    | zero => intro x2 x3 x4 x5 h hf; cases hf
    | succ n ih => intro x2 x3 x4 x5 h hf; exact B30 _ ih _ _ _ _ _ hf
  intro H locs ls hl hH
  replace hl : lv_has ls 8 [(0, .ref (X.2.2.2 a0)), (1, .int a1)] := hl
  unfold f_X7_best at hf
  refine lv_iload_n hx hb dX7_best_0 rfl (lv_at hl 1 rfl) ?_
  refine lv_i2l hx hb dX7_best_1 rfl ?_
  refine lv_lconst (v := 0) hx hb dX7_best_2 (by decide) ?_
  refine lv_ldc2 hx hb hown (hts _ (wU_in _ m_899)) dX7_best_3 ?_
  obtain ⟨r27, h26, hq25, hf⟩ := bnd_ok hf
  refine wk_callSi (As := [.long ((a1).toInt64), .long ((0 : Int64)), .long ((2 : Int64))]) (rest := []) S hK hN hH (C_X7_in l X hI ((a1).toInt64) (0 : Int64) (2 : Int64) _ _ _ hq25) (va_cwS 3 hts (gS wU_in m_720 m_721 m_41 m_722) rfl rfl rfl hdS_X7_in ⟨Nat.le_of_ble_eq_true rfl, Nat.le_of_ble_eq_true rfl⟩) hl.1 rfl rfl (Nat.le_of_ble_eq_true rfl) dX7_best_6 ⟨Nat.zero_le _, Nat.zero_le _⟩ (fun H locs hH => ?_)
  refine lv_if_ne (tgt := 15) hx hb dX7_best_9 (by decide) (fun c28 => ?_) (fun c28 => ?_)
  · replace hf := ite_f c28 hf
    refine lv_aload_n hx hb dX7_best_15 rfl (lv_at hl 0 rfl) ?_
    obtain ⟨h30, hq29, hf⟩ := bind_ok hf
    refine wk_callVv (ci := 6) (b := a0) (As := []) (rest := []) S hK hN hH t0 (by decide) rfl (C_X7_layTrial l X hI t0 _ _ hq29) (cwV 0 hts (gV wU_in m_900 m_902 m_28 m_41 m_903) rfl rfl rfl hdV_X7_layTrial ⟨Nat.le_of_ble_eq_true rfl, Nat.le_of_ble_eq_true rfl⟩) hl.1 rfl rfl (Nat.le_of_ble_eq_true rfl) dX7_best_16 ⟨Nat.zero_le _, Nat.zero_le _⟩ (fun H locs hH => ?_)
    refine lv_bipush (v := (-9)) hx hb dX7_best_19 (by decide) ?_
    refine lv_istore_n (lv' := [(2, .int ((-9 : Int32))), (0, .ref (X.2.2.2 a0)), (1, .int a1)]) hx hb dX7_best_21 rfl hl (by decide) rfl (fun ls hl => ?_)
    refine lv_iconst (v := 0) hx hb dX7_best_22 (by decide) ?_
    refine lv_istore_n (lv' := [(3, .int ((0 : Int32))), (2, .int ((-9 : Int32))), (0, .ref (X.2.2.2 a0)), (1, .int a1)]) hx hb dX7_best_23 rfl hl (by decide) rfl (fun ls hl => ?_)
    refine lv_iconst (v := 0) hx hb dX7_best_24 (by decide) ?_
    refine lv_istore (lv' := [(4, .int ((0 : Int32))), (3, .int ((0 : Int32))), (2, .int ((-9 : Int32))), (0, .ref (X.2.2.2 a0)), (1, .int a1)]) hx hb dX7_best_25 hl (by decide) rfl (fun ls hl => ?_)
    refine lv_iconst (v := 0) hx hb dX7_best_27 (by decide) ?_
    refine lv_istore (lv' := [(5, .int ((0 : Int32))), (4, .int ((0 : Int32))), (3, .int ((0 : Int32))), (2, .int ((-9 : Int32))), (0, .ref (X.2.2.2 a0)), (1, .int a1)]) hx hb dX7_best_28 hl (by decide) rfl (fun ls hl => ?_)
    exact BL30 FU _ _ _ _ _ hf H locs ls (lv_sub hl [4, 5, 3, 2, 1, 0] rfl) hH
  · replace hf := ite_t c28 hf
    refine lv_bipush (v := (-2)) hx hb dX7_best_12 (by decide) ?_
    exact wk_iret S hr hlk hK hN hH hf dX7_best_14
set_option maxHeartbeats 4000000 in
set_option maxRecDepth 100000 in
theorem C_X7_judged (l : Launch) (X : Cx) (hI : Inj X) {a0 : Nat} (t0 : tY a0 = 6) (a1 : Int32) (a2 : Int32) (a3 : Int32) (a4 : Int32) (h : Hp) (r0 : Int32) (h0 : Hp) (hf : f_X7_judged a0 a1 a2 a3 a4 h = some (r0, h0)) : Mi l X yX7_judged cX7_judged 5 (some .boolean) 5 125 h [.ref (X.2.2.2 a0), .int a1, .int a2, .int a3, .int a4] r0 h0 := by
  refine BD_of (own := RX7) hI rfl (by decide) (Nat.le_of_ble_eq_true rfl) ?_
  intro p e s m args below meth c S hr hlk hK hN
  obtain ⟨hx, hb, hml, hown, hts⟩ := id S
  intro H locs ls hl hH
  replace hl : lv_has ls 5 [(0, .ref (X.2.2.2 a0)), (1, .int a1), (2, .int a2), (3, .int a3), (4, .int a4)] := hl
  unfold f_X7_judged at hf
  refine lv_iload_n hx hb dX7_judged_0 rfl (lv_at hl 1 rfl) ?_
  by_cases c1 : a1 = 1
  · replace hf := ite_t c1 hf
    refine lv_tableIn (off := 39) (tgt := 40) hx hb dX7_judged_1 (by rw [c1]; decide) (by rw [c1]; decide) (by rw [c1]; decide) (by decide) ?_
    refine lv_iload_n hx hb dX7_judged_40 rfl (lv_at hl 2 rfl) ?_
    refine lv_if_ne (tgt := 61) hx hb dX7_judged_41 (by decide) (fun c2 => ?_) (fun c2 => ?_)
    · replace hf := ite_f c2 hf
      refine lv_iconst (v := 0) hx hb dX7_judged_61 (by decide) ?_
      exact wk_zret S hr hlk hK hN hH rfl hf dX7_judged_62
    · replace hf := ite_t c2 hf
      refine lv_aload_n hx hb dX7_judged_44 rfl (lv_at hl 0 rfl) ?_
      refine lv_iload_n hx hb dX7_judged_45 rfl (lv_at hl 3 rfl) ?_
      obtain ⟨r5, h4, hq3, hf⟩ := bnd_ok hf
      refine wk_callVi (ci := 6) (b := a0) (As := [.int a3]) (rest := []) S hK hN hH t0 (by decide) rfl (C_X7_isChange l X hI t0 a3 _ _ _ hq3) (cwV 1 hts (gV wU_in m_830 m_832 m_25 m_41 m_833) rfl rfl rfl hdV_X7_isChange ⟨Nat.le_of_ble_eq_true rfl, Nat.le_of_ble_eq_true rfl⟩) hl.1 rfl rfl (Nat.le_of_ble_eq_true rfl) dX7_judged_46 ⟨Nat.zero_le _, Nat.zero_le _⟩ (fun H locs hH => ?_)
      refine lv_if_eq (tgt := 61) hx hb dX7_judged_49 (by decide) (fun c6 => ?_) (fun c6 => ?_)
      · replace hf := ite_t c6 hf
        refine lv_iconst (v := 0) hx hb dX7_judged_61 (by decide) ?_
        exact wk_zret S hr hlk hK hN hH rfl hf dX7_judged_62
      · replace hf := ite_f c6 hf
        refine lv_aload_n hx hb dX7_judged_52 rfl (lv_at hl 0 rfl) ?_
        refine lv_iload hx hb dX7_judged_53 (lv_at hl 4 rfl) ?_
        obtain ⟨r9, h8, hq7, hf⟩ := bnd_ok hf
        refine wk_callVi (ci := 6) (b := a0) (As := [.int a4]) (rest := []) S hK hN hH t0 (by decide) rfl (C_X7_isChange l X hI t0 a4 _ _ _ hq7) (cwV 1 hts (gV wU_in m_830 m_832 m_25 m_41 m_833) rfl rfl rfl hdV_X7_isChange ⟨Nat.le_of_ble_eq_true rfl, Nat.le_of_ble_eq_true rfl⟩) hl.1 rfl rfl (Nat.le_of_ble_eq_true rfl) dX7_judged_55 ⟨Nat.zero_le _, Nat.zero_le _⟩ (fun H locs hH => ?_)
        refine lv_if_ne (tgt := 63) hx hb dX7_judged_58 (by decide) (fun c10 => ?_) (fun c10 => ?_)
        · replace hf := ite_f c10 hf
          refine lv_aload_n hx hb dX7_judged_63 rfl (lv_at hl 0 rfl) ?_
          refine wk_getr (ci := 6) (k := 3) S hK hH j_X7 t0 rfl hq_6_3 (hts _ (wU_in _ m_627)) dX7_judged_64 ?_
          refine lv_iload_n hx hb dX7_judged_67 rfl (lv_at hl 3 rfl) ?_
          refine lv_iload hx hb dX7_judged_68 (lv_at hl 4 rfl) ?_
          obtain ⟨h12, hq11, hf⟩ := bind_ok hf
          refine wk_callSv (As := [.ref (X.2.2.2 (rF a0 3)), .int a3, .int a4]) (rest := []) S hK hN hH (C_X7_swapOn l X hI (tr_6_3 t0) a3 a4 _ _ hq11) (va_cwS 3 hts (gS wU_in m_868 m_869 m_41 m_870) rfl rfl rfl hdS_X7_swapOn ⟨Nat.le_of_ble_eq_true rfl, Nat.le_of_ble_eq_true rfl⟩) hl.1 rfl rfl (Nat.le_of_ble_eq_true rfl) dX7_judged_70 ⟨Nat.zero_le _, Nat.zero_le _⟩ (fun H locs hH => ?_)
          refine lv_iconst (v := 1) hx hb dX7_judged_73 (by decide) ?_
          exact wk_zret S hr hlk hK hN hH rfl hf dX7_judged_74
        · replace hf := ite_t c10 hf
          refine lv_iconst (v := 0) hx hb dX7_judged_61 (by decide) ?_
          exact wk_zret S hr hlk hK hN hH rfl hf dX7_judged_62
  replace hf := ite_f c1 hf
  by_cases c14 : a1 = 2
  · replace hf := ite_t c14 hf
    refine lv_tableIn (off := 74) (tgt := 75) hx hb dX7_judged_1 (by rw [c14]; decide) (by rw [c14]; decide) (by rw [c14]; decide) (by decide) ?_
    refine lv_aload_n hx hb dX7_judged_75 rfl (lv_at hl 0 rfl) ?_
    refine lv_iload_n hx hb dX7_judged_76 rfl (lv_at hl 2 rfl) ?_
    obtain ⟨r17, h16, hq15, hf⟩ := bnd_ok hf
    refine wk_callVi (ci := 6) (b := a0) (As := [.int a2]) (rest := []) S hK hN hH t0 (by decide) rfl (C_X7_isChange l X hI t0 a2 _ _ _ hq15) (cwV 1 hts (gV wU_in m_830 m_832 m_25 m_41 m_833) rfl rfl rfl hdV_X7_isChange ⟨Nat.le_of_ble_eq_true rfl, Nat.le_of_ble_eq_true rfl⟩) hl.1 rfl rfl (Nat.le_of_ble_eq_true rfl) dX7_judged_77 ⟨Nat.zero_le _, Nat.zero_le _⟩ (fun H locs hH => ?_)
    refine lv_if_eq (tgt := 92) hx hb dX7_judged_80 (by decide) (fun c18 => ?_) (fun c18 => ?_)
    · replace hf := ite_t c18 hf
      refine lv_iconst (v := 0) hx hb dX7_judged_92 (by decide) ?_
      exact wk_zret S hr hlk hK hN hH rfl hf dX7_judged_93
    · replace hf := ite_f c18 hf
      refine lv_iload_n hx hb dX7_judged_83 rfl (lv_at hl 3 rfl) ?_
      refine lv_iload hx hb dX7_judged_84 (lv_at hl 4 rfl) ?_
      obtain ⟨r21, h20, hq19, hf⟩ := bnd_ok hf
      refine wk_callSi (As := [.int a3, .int a4]) (rest := []) S hK hN hH (C_X7_isSign l X hI a3 a4 _ _ _ hq19) (va_cwS 2 hts (gS wU_in m_875 m_876 m_41 m_877) rfl rfl rfl hdS_X7_isSign ⟨Nat.le_of_ble_eq_true rfl, Nat.le_of_ble_eq_true rfl⟩) hl.1 rfl rfl (Nat.le_of_ble_eq_true rfl) dX7_judged_86 ⟨Nat.zero_le _, Nat.zero_le _⟩ (fun H locs hH => ?_)
      refine lv_if_ne (tgt := 94) hx hb dX7_judged_89 (by decide) (fun c22 => ?_) (fun c22 => ?_)
      · replace hf := ite_f c22 hf
        refine lv_aload_n hx hb dX7_judged_94 rfl (lv_at hl 0 rfl) ?_
        refine wk_getr (ci := 6) (k := 3) S hK hH j_X7 t0 rfl hq_6_3 (hts _ (wU_in _ m_627)) dX7_judged_95 ?_
        refine lv_iconst (v := 4) hx hb dX7_judged_98 (by decide) ?_
        refine lv_iconst (v := 4) hx hb dX7_judged_99 (by decide) ?_
        refine lv_iload_n hx hb dX7_judged_100 rfl (lv_at hl 2 rfl) ?_
        refine lv_imul hx hb dX7_judged_101 ?_
        refine lv_iadd hx hb dX7_judged_102 ?_
        refine lv_iload_n hx hb dX7_judged_103 rfl (lv_at hl 3 rfl) ?_
        refine lv_iadd hx hb dX7_judged_104 ?_
        refine lv_iload hx hb dX7_judged_105 (lv_at hl 4 rfl) ?_
        obtain ⟨o23, hf⟩ := ite_ok hf
        refine wk_iast S hK hH (tr_6_3 t0) o23 dX7_judged_107 (fun H locs hH => ?_)
        refine lv_iconst (v := 1) hx hb dX7_judged_108 (by decide) ?_
        exact wk_zret S hr hlk hK hN hH rfl hf dX7_judged_109
      · replace hf := ite_t c22 hf
        refine lv_iconst (v := 0) hx hb dX7_judged_92 (by decide) ?_
        exact wk_zret S hr hlk hK hN hH rfl hf dX7_judged_93
  replace hf := ite_f c14 hf
  by_cases c24 : a1 = 3
  · replace hf := ite_t c24 hf
    refine lv_tableIn (off := 109) (tgt := 110) hx hb dX7_judged_1 (by rw [c24]; decide) (by rw [c24]; decide) (by rw [c24]; decide) (by decide) ?_
    refine lv_aload_n hx hb dX7_judged_110 rfl (lv_at hl 0 rfl) ?_
    refine lv_iload_n hx hb dX7_judged_111 rfl (lv_at hl 2 rfl) ?_
    obtain ⟨r27, h26, hq25, hf⟩ := bnd_ok hf
    refine wk_callVi (ci := 6) (b := a0) (As := [.int a2]) (rest := []) S hK hN hH t0 (by decide) rfl (C_X7_isRoot l X hI t0 a2 _ _ _ hq25) (cwV 1 hts (gV wU_in m_818 m_820 m_23 m_41 m_821) rfl rfl rfl hdV_X7_isRoot ⟨Nat.le_of_ble_eq_true rfl, Nat.le_of_ble_eq_true rfl⟩) hl.1 rfl rfl (Nat.le_of_ble_eq_true rfl) dX7_judged_112 ⟨Nat.zero_le _, Nat.zero_le _⟩ (fun H locs hH => ?_)
    refine lv_if_eq (tgt := 150) hx hb dX7_judged_115 (by decide) (fun c28 => ?_) (fun c28 => ?_)
    · replace hf := ite_t c28 hf
      refine lv_iconst (v := 0) hx hb dX7_judged_150 (by decide) ?_
      exact wk_zret S hr hlk hK hN hH rfl hf dX7_judged_151
    · replace hf := ite_f c28 hf
      refine lv_aload_n hx hb dX7_judged_118 rfl (lv_at hl 0 rfl) ?_
      refine lv_iload_n hx hb dX7_judged_119 rfl (lv_at hl 3 rfl) ?_
      obtain ⟨r31, h30, hq29, hf⟩ := bnd_ok hf
      refine wk_callVi (ci := 6) (b := a0) (As := [.int a3]) (rest := []) S hK hN hH t0 (by decide) rfl (C_X7_isEnding l X hI t0 a3 _ _ _ hq29) (cwV 1 hts (gV wU_in m_822 m_824 m_24 m_41 m_825) rfl rfl rfl hdV_X7_isEnding ⟨Nat.le_of_ble_eq_true rfl, Nat.le_of_ble_eq_true rfl⟩) hl.1 rfl rfl (Nat.le_of_ble_eq_true rfl) dX7_judged_120 ⟨Nat.zero_le _, Nat.zero_le _⟩ (fun H locs hH => ?_)
      refine lv_if_eq (tgt := 150) hx hb dX7_judged_123 (by decide) (fun c32 => ?_) (fun c32 => ?_)
      · replace hf := ite_t c32 hf
        refine lv_iconst (v := 0) hx hb dX7_judged_150 (by decide) ?_
        exact wk_zret S hr hlk hK hN hH rfl hf dX7_judged_151
      · replace hf := ite_f c32 hf
        refine lv_aload_n hx hb dX7_judged_126 rfl (lv_at hl 0 rfl) ?_
        refine lv_aload_n hx hb dX7_judged_127 rfl (lv_at hl 0 rfl) ?_
        refine wk_getr (ci := 6) (k := 3) S hK hH j_X7 t0 rfl hq_6_3 (hts _ (wU_in _ m_627)) dX7_judged_128 ?_
        refine lv_iload_n hx hb dX7_judged_131 rfl (lv_at hl 2 rfl) ?_
        refine lv_iload_n hx hb dX7_judged_132 rfl (lv_at hl 3 rfl) ?_
        refine lv_bipush (v := 15) hx hb dX7_judged_133 (by decide) ?_
        obtain ⟨r35, h34, hq33, hf⟩ := bnd_ok hf
        refine wk_callVi (ci := 6) (b := a0) (As := [.ref (X.2.2.2 (rF a0 3)), .int a2, .int a3, .int ((15 : Int32))]) (rest := []) S hK hN hH t0 (by decide) rfl (C_X7_madeBy l X hI t0 (tr_6_3 t0) a2 a3 (15 : Int32) _ _ _ hq33) (cwV 4 hts (gV wU_in m_773 m_775 m_18 m_41 m_776) rfl rfl rfl hdV_X7_madeBy ⟨Nat.le_of_ble_eq_true rfl, Nat.le_of_ble_eq_true rfl⟩) hl.1 rfl rfl (Nat.le_of_ble_eq_true rfl) dX7_judged_135 ⟨Nat.zero_le _, Nat.zero_le _⟩ (fun H locs hH => ?_)
        obtain ⟨r38, h37, hq36, hf⟩ := bnd_ok hf
        refine wk_callSi (As := [.int r35]) (rest := []) S hK hN hH (C_X7_size l X hI r35 _ _ _ hq36) (va_cwS 1 hts (gS wU_in m_784 m_785 m_41 m_786) rfl rfl rfl hdS_X7_size ⟨Nat.le_of_ble_eq_true rfl, Nat.le_of_ble_eq_true rfl⟩) hl.1 rfl rfl (Nat.le_of_ble_eq_true rfl) dX7_judged_138 ⟨Nat.zero_le _, Nat.zero_le _⟩ (fun H locs hH => ?_)
        refine lv_iload hx hb dX7_judged_141 (lv_at hl 4 rfl) ?_
        refine lv_icmp_ne (tgt := 150) hx hb dX7_judged_143 (by decide) (fun c39 => ?_) (fun c39 => ?_)
        · replace hf := ite_f c39 hf
          refine lv_iconst (v := 0) hx hb dX7_judged_150 (by decide) ?_
          exact wk_zret S hr hlk hK hN hH rfl hf dX7_judged_151
        · replace hf := ite_t c39 hf
          refine lv_iconst (v := 1) hx hb dX7_judged_146 (by decide) ?_
          refine lv_goto (tgt := 151) hx hb dX7_judged_147 (by decide) ?_
          exact wk_zret S hr hlk hK hN hH rfl hf dX7_judged_151
  replace hf := ite_f c24 hf
  by_cases c40 : a1 = 4
  · replace hf := ite_t c40 hf
    refine lv_tableIn (off := 151) (tgt := 152) hx hb dX7_judged_1 (by rw [c40]; decide) (by rw [c40]; decide) (by rw [c40]; decide) (by decide) ?_
    refine lv_iload_n hx hb dX7_judged_152 rfl (lv_at hl 2 rfl) ?_
    refine lv_if_ne (tgt := 191) hx hb dX7_judged_153 (by decide) (fun c41 => ?_) (fun c41 => ?_)
    · replace hf := ite_f c41 hf
      refine lv_iconst (v := 0) hx hb dX7_judged_191 (by decide) ?_
      exact wk_zret S hr hlk hK hN hH rfl hf dX7_judged_192
    · replace hf := ite_t c41 hf
      refine lv_aload_n hx hb dX7_judged_156 rfl (lv_at hl 0 rfl) ?_
      refine lv_iload_n hx hb dX7_judged_157 rfl (lv_at hl 3 rfl) ?_
      obtain ⟨r44, h43, hq42, hf⟩ := bnd_ok hf
      refine wk_callVi (ci := 6) (b := a0) (As := [.int a3]) (rest := []) S hK hN hH t0 (by decide) rfl (C_X7_isChange l X hI t0 a3 _ _ _ hq42) (cwV 1 hts (gV wU_in m_830 m_832 m_25 m_41 m_833) rfl rfl rfl hdV_X7_isChange ⟨Nat.le_of_ble_eq_true rfl, Nat.le_of_ble_eq_true rfl⟩) hl.1 rfl rfl (Nat.le_of_ble_eq_true rfl) dX7_judged_158 ⟨Nat.zero_le _, Nat.zero_le _⟩ (fun H locs hH => ?_)
      refine lv_if_eq (tgt := 191) hx hb dX7_judged_161 (by decide) (fun c45 => ?_) (fun c45 => ?_)
      · replace hf := ite_t c45 hf
        refine lv_iconst (v := 0) hx hb dX7_judged_191 (by decide) ?_
        exact wk_zret S hr hlk hK hN hH rfl hf dX7_judged_192
      · replace hf := ite_f c45 hf
        refine lv_aload_n hx hb dX7_judged_164 rfl (lv_at hl 0 rfl) ?_
        refine lv_iload hx hb dX7_judged_165 (lv_at hl 4 rfl) ?_
        obtain ⟨r48, h47, hq46, hf⟩ := bnd_ok hf
        refine wk_callVi (ci := 6) (b := a0) (As := [.int a4]) (rest := []) S hK hN hH t0 (by decide) rfl (C_X7_isChange l X hI t0 a4 _ _ _ hq46) (cwV 1 hts (gV wU_in m_830 m_832 m_25 m_41 m_833) rfl rfl rfl hdV_X7_isChange ⟨Nat.le_of_ble_eq_true rfl, Nat.le_of_ble_eq_true rfl⟩) hl.1 rfl rfl (Nat.le_of_ble_eq_true rfl) dX7_judged_167 ⟨Nat.zero_le _, Nat.zero_le _⟩ (fun H locs hH => ?_)
        refine lv_if_eq (tgt := 191) hx hb dX7_judged_170 (by decide) (fun c49 => ?_) (fun c49 => ?_)
        · replace hf := ite_t c49 hf
          refine lv_iconst (v := 0) hx hb dX7_judged_191 (by decide) ?_
          exact wk_zret S hr hlk hK hN hH rfl hf dX7_judged_192
        · replace hf := ite_f c49 hf
          refine lv_aload_n hx hb dX7_judged_173 rfl (lv_at hl 0 rfl) ?_
          refine lv_aload_n hx hb dX7_judged_174 rfl (lv_at hl 0 rfl) ?_
          refine wk_getr (ci := 6) (k := 3) S hK hH j_X7 t0 rfl hq_6_3 (hts _ (wU_in _ m_627)) dX7_judged_175 ?_
          refine lv_iload_n hx hb dX7_judged_178 rfl (lv_at hl 3 rfl) ?_
          refine lv_iload hx hb dX7_judged_179 (lv_at hl 4 rfl) ?_
          obtain ⟨r52, h51, hq50, hf⟩ := bnd_ok hf
          refine wk_callVi (ci := 6) (b := a0) (As := [.ref (X.2.2.2 (rF a0 3)), .int a3, .int a4]) (rest := []) S hK hN hH t0 (by decide) rfl (C_X7_areCrossing l X hI t0 (tr_6_3 t0) a3 a4 _ _ _ hq50) (cwV 3 hts (gV wU_in m_891 m_893 m_27 m_41 m_894) rfl rfl rfl hdV_X7_areCrossing ⟨Nat.le_of_ble_eq_true rfl, Nat.le_of_ble_eq_true rfl⟩) hl.1 rfl rfl (Nat.le_of_ble_eq_true rfl) dX7_judged_181 ⟨Nat.zero_le _, Nat.zero_le _⟩ (fun H locs hH => ?_)
          refine lv_if_eq (tgt := 191) hx hb dX7_judged_184 (by decide) (fun c53 => ?_) (fun c53 => ?_)
          · replace hf := ite_t c53 hf
            refine lv_iconst (v := 0) hx hb dX7_judged_191 (by decide) ?_
            exact wk_zret S hr hlk hK hN hH rfl hf dX7_judged_192
          · replace hf := ite_f c53 hf
            refine lv_iconst (v := 1) hx hb dX7_judged_187 (by decide) ?_
            refine lv_goto (tgt := 192) hx hb dX7_judged_188 (by decide) ?_
            exact wk_zret S hr hlk hK hN hH rfl hf dX7_judged_192
  replace hf := ite_f c40 hf
  by_cases c54 : a1 = 5
  · replace hf := ite_t c54 hf
    refine lv_tableIn (off := 192) (tgt := 193) hx hb dX7_judged_1 (by rw [c54]; decide) (by rw [c54]; decide) (by rw [c54]; decide) (by decide) ?_
    refine lv_aload_n hx hb dX7_judged_193 rfl (lv_at hl 0 rfl) ?_
    refine lv_iload_n hx hb dX7_judged_194 rfl (lv_at hl 2 rfl) ?_
    obtain ⟨r57, h56, hq55, hf⟩ := bnd_ok hf
    refine wk_callVi (ci := 6) (b := a0) (As := [.int a2]) (rest := []) S hK hN hH t0 (by decide) rfl (C_X7_isChange l X hI t0 a2 _ _ _ hq55) (cwV 1 hts (gV wU_in m_830 m_832 m_25 m_41 m_833) rfl rfl rfl hdV_X7_isChange ⟨Nat.le_of_ble_eq_true rfl, Nat.le_of_ble_eq_true rfl⟩) hl.1 rfl rfl (Nat.le_of_ble_eq_true rfl) dX7_judged_195 ⟨Nat.zero_le _, Nat.zero_le _⟩ (fun H locs hH => ?_)
    refine lv_if_eq (tgt := 229) hx hb dX7_judged_198 (by decide) (fun c58 => ?_) (fun c58 => ?_)
    · replace hf := ite_t c58 hf
      refine lv_iconst (v := 0) hx hb dX7_judged_229 (by decide) ?_
      exact wk_zret S hr hlk hK hN hH rfl hf dX7_judged_230
    · replace hf := ite_f c58 hf
      refine lv_iload_n hx hb dX7_judged_201 rfl (lv_at hl 3 rfl) ?_
      refine lv_if_ne (tgt := 229) hx hb dX7_judged_202 (by decide) (fun c59 => ?_) (fun c59 => ?_)
      · replace hf := ite_f c59 hf
        refine lv_iconst (v := 0) hx hb dX7_judged_229 (by decide) ?_
        exact wk_zret S hr hlk hK hN hH rfl hf dX7_judged_230
      · replace hf := ite_t c59 hf
        refine lv_iload hx hb dX7_judged_205 (lv_at hl 4 rfl) ?_
        refine lv_if_ne (tgt := 229) hx hb dX7_judged_207 (by decide) (fun c60 => ?_) (fun c60 => ?_)
        · replace hf := ite_f c60 hf
          refine lv_iconst (v := 0) hx hb dX7_judged_229 (by decide) ?_
          exact wk_zret S hr hlk hK hN hH rfl hf dX7_judged_230
        · replace hf := ite_t c60 hf
          refine lv_aload_n hx hb dX7_judged_210 rfl (lv_at hl 0 rfl) ?_
          refine lv_aload_n hx hb dX7_judged_211 rfl (lv_at hl 0 rfl) ?_
          refine wk_getr (ci := 6) (k := 3) S hK hH j_X7 t0 rfl hq_6_3 (hts _ (wU_in _ m_627)) dX7_judged_212 ?_
          obtain ⟨r63, h62, hq61, hf⟩ := bnd_ok hf
          refine wk_callVi (ci := 6) (b := a0) (As := [.ref (X.2.2.2 (rF a0 3))]) (rest := []) S hK hN hH t0 (by decide) rfl (C_X7_active l X hI t0 (tr_6_3 t0) _ _ _ hq61) (cwV 1 hts (gV wU_in m_802 m_804 m_20 m_41 m_805) rfl rfl rfl hdV_X7_active ⟨Nat.le_of_ble_eq_true rfl, Nat.le_of_ble_eq_true rfl⟩) hl.1 rfl rfl (Nat.le_of_ble_eq_true rfl) dX7_judged_215 ⟨Nat.zero_le _, Nat.zero_le _⟩ (fun H locs hH => ?_)
          refine lv_iload_n hx hb dX7_judged_218 rfl (lv_at hl 2 rfl) ?_
          obtain ⟨r66, h65, hq64, hf⟩ := bnd_ok hf
          refine wk_callSi (As := [.int r63, .int a2]) (rest := []) S hK hN hH (C_X7_has l X hI r63 a2 _ _ _ hq64) (va_cwS 2 hts (gS wU_in m_793 m_794 m_41 m_795) rfl rfl rfl hdS_X7_has ⟨Nat.le_of_ble_eq_true rfl, Nat.le_of_ble_eq_true rfl⟩) hl.1 rfl rfl (Nat.le_of_ble_eq_true rfl) dX7_judged_219 ⟨Nat.zero_le _, Nat.zero_le _⟩ (fun H locs hH => ?_)
          refine lv_if_eq (tgt := 229) hx hb dX7_judged_222 (by decide) (fun c67 => ?_) (fun c67 => ?_)
          · replace hf := ite_t c67 hf
            refine lv_iconst (v := 0) hx hb dX7_judged_229 (by decide) ?_
            exact wk_zret S hr hlk hK hN hH rfl hf dX7_judged_230
          · replace hf := ite_f c67 hf
            refine lv_iconst (v := 1) hx hb dX7_judged_225 (by decide) ?_
            refine lv_goto (tgt := 230) hx hb dX7_judged_226 (by decide) ?_
            exact wk_zret S hr hlk hK hN hH rfl hf dX7_judged_230
  replace hf := ite_f c54 hf
  by_cases c68 : a1 = 6
  · replace hf := ite_t c68 hf
    refine lv_tableIn (off := 230) (tgt := 231) hx hb dX7_judged_1 (by rw [c68]; decide) (by rw [c68]; decide) (by rw [c68]; decide) (by decide) ?_
    refine lv_iload_n hx hb dX7_judged_231 rfl (lv_at hl 2 rfl) ?_
    refine lv_if_ne (tgt := 256) hx hb dX7_judged_232 (by decide) (fun c69 => ?_) (fun c69 => ?_)
    · replace hf := ite_f c69 hf
      refine lv_iconst (v := 0) hx hb dX7_judged_256 (by decide) ?_
      exact wk_zret S hr hlk hK hN hH rfl hf dX7_judged_257
    · replace hf := ite_t c69 hf
      refine lv_iload_n hx hb dX7_judged_235 rfl (lv_at hl 3 rfl) ?_
      refine lv_if_ne (tgt := 256) hx hb dX7_judged_236 (by decide) (fun c70 => ?_) (fun c70 => ?_)
      · replace hf := ite_f c70 hf
        refine lv_iconst (v := 0) hx hb dX7_judged_256 (by decide) ?_
        exact wk_zret S hr hlk hK hN hH rfl hf dX7_judged_257
      · replace hf := ite_t c70 hf
        refine lv_aload_n hx hb dX7_judged_239 rfl (lv_at hl 0 rfl) ?_
        refine lv_aload_n hx hb dX7_judged_240 rfl (lv_at hl 0 rfl) ?_
        refine wk_getr (ci := 6) (k := 3) S hK hH j_X7 t0 rfl hq_6_3 (hts _ (wU_in _ m_627)) dX7_judged_241 ?_
        obtain ⟨r73, h72, hq71, hf⟩ := bnd_ok hf
        refine wk_callVi (ci := 6) (b := a0) (As := [.ref (X.2.2.2 (rF a0 3))]) (rest := []) S hK hN hH t0 (by decide) rfl (C_X7_exceptions l X hI t0 (tr_6_3 t0) _ _ _ hq71) (cwV 1 hts (gV wU_in m_806 m_808 m_21 m_41 m_809) rfl rfl rfl hdV_X7_exceptions ⟨Nat.le_of_ble_eq_true rfl, Nat.le_of_ble_eq_true rfl⟩) hl.1 rfl rfl (Nat.le_of_ble_eq_true rfl) dX7_judged_244 ⟨Nat.zero_le _, Nat.zero_le _⟩ (fun H locs hH => ?_)
        refine lv_iload hx hb dX7_judged_247 (lv_at hl 4 rfl) ?_
        refine lv_icmp_gt (tgt := 256) hx hb dX7_judged_249 (by decide) (fun c74 => ?_) (fun c74 => ?_)
        · replace hf := ite_t c74 hf
          refine lv_iconst (v := 0) hx hb dX7_judged_256 (by decide) ?_
          exact wk_zret S hr hlk hK hN hH rfl hf dX7_judged_257
        · replace hf := ite_f c74 hf
          refine lv_iconst (v := 1) hx hb dX7_judged_252 (by decide) ?_
          refine lv_goto (tgt := 257) hx hb dX7_judged_253 (by decide) ?_
          exact wk_zret S hr hlk hK hN hH rfl hf dX7_judged_257
  replace hf := ite_f c68 hf
  have ec1 := lv_neT (a := 1) c1 (by decide)
  have ec14 := lv_neT (a := 2) c14 (by decide)
  have ec24 := lv_neT (a := 3) c24 (by decide)
  have ec40 := lv_neT (a := 4) c40 (by decide)
  have ec54 := lv_neT (a := 5) c54 (by decide)
  have ec68 := lv_neT (a := 6) c68 (by decide)
  refine lv_tableOut (tgt := 258) hx hb dX7_judged_1 (by omega) (by decide) ?_
  refine lv_iconst (v := 0) hx hb dX7_judged_258 (by decide) ?_
  exact wk_zret S hr hlk hK hN hH rfl hf dX7_judged_259
set_option maxHeartbeats 4000000 in
set_option maxRecDepth 100000 in
theorem C_X7_tenThousands (l : Launch) (X : Cx) (hI : Inj X) (a0 : Int32) (h : Hp) (r0 : Int64) (h0 : Hp) (hf : f_X7_tenThousands a0 h = some (r0, h0)) : Ml l X yX7_tenThousands cX7_tenThousands 4 (some .long) 0 0 h [.int a0] r0 h0 := by
  refine BD_of (own := RX7) hI rfl (by decide) (Nat.le_of_ble_eq_true rfl) ?_
  intro p e s m args below meth c S hr hlk hK hN
  obtain ⟨hx, hb, hml, hown, hts⟩ := id S
  have B4 : ∀ (k4 : Int64 → Int32 → Hp → Option (Int64 × Hp)) (hk4 : ∀ (x1 : Int64) (x3 : Int32) (h : Hp), k4 x1 x3 h = some (r0, h0) → BK p l e ({ frames := 0, cells := 0, slots := 0, locals := 0 }) s m args below meth c (MQ below (cQl X r0 h0) args s 0 0 (AD X)) X 4 4 [(0, .int a0), (1, .long x1), (3, .int x3)] [] h) (x1 : Int64) (x3 : Int32) (h : Hp), g_X7_tenThousands_4 a0 k4 x1 x3 h = some (r0, h0) → BK p l e ({ frames := 0, cells := 0, slots := 0, locals := 0 }) s m args below meth c (MQ below (cQl X r0 h0) args s 0 0 (AD X)) X 4 4 [(0, .int a0), (1, .long x1), (3, .int x3)] [] h := by
    intro k4 hk4 x1 x3 h hf H locs ls hl hH
    unfold g_X7_tenThousands_4 at hf
    refine lv_iload_n hx hb dX7_tenThousands_4 rfl (lv_at hl 2 rfl) ?_
    refine lv_iload_n hx hb dX7_tenThousands_5 rfl (lv_at hl 0 rfl) ?_
    refine lv_icmp_ge (tgt := 21) hx hb dX7_tenThousands_6 (by decide) (fun c1 => ?_) (fun c1 => ?_)
    · replace hf := ite_t c1 hf
      refine lv_lload_n hx hb dX7_tenThousands_21 rfl (lv_at hl 1 rfl) ?_
      exact wk_lret S hr hlk hK hN hH hf dX7_tenThousands_22
    · replace hf := ite_f c1 hf
      refine lv_lload_n hx hb dX7_tenThousands_9 rfl (lv_at hl 1 rfl) ?_
      refine lv_ldc2 hx hb hown (hts _ (wU_in _ m_924)) dX7_tenThousands_10 ?_
      refine lv_lmul hx hb dX7_tenThousands_13 ?_
      refine lv_lstore_n (lv' := [(1, .long ((x1 * (10000 : Int64)))), (0, .int a0), (3, .int x3)]) hx hb dX7_tenThousands_14 rfl hl (by decide) rfl (fun ls hl => ?_)
      refine lv_iinc (v := (x3 + (1 : Int32))) (lv' := [(3, .int ((x3 + (1 : Int32)))), (1, .long ((x1 * (10000 : Int64)))), (0, .int a0)]) hx hb dX7_tenThousands_15 hl (k := 2) rfl rfl (by decide) rfl (fun ls hl => ?_)
      refine lv_goto (tgt := 4) hx hb dX7_tenThousands_18 (by decide) ?_
      exact hk4 _ _ _ hf H locs ls (lv_sub hl [2, 1, 0] rfl) hH
  have BL4 : ∀ (n : Nat) (x1 : Int64) (x3 : Int32) (h : Hp), f_X7_tenThousands_4 a0 n x1 x3 h = some (r0, h0) → BK p l e ({ frames := 0, cells := 0, slots := 0, locals := 0 }) s m args below meth c (MQ below (cQl X r0 h0) args s 0 0 (AD X)) X 4 4 [(0, .int a0), (1, .long x1), (3, .int x3)] [] h := by
    intro n
    induction n with
    | zero => intro x1 x3 h hf; cases hf
    | succ n ih => intro x1 x3 h hf; exact B4 _ ih _ _ _ hf
  intro H locs ls hl hH
  replace hl : lv_has ls 4 [(0, .int a0)] := hl
  unfold f_X7_tenThousands at hf
  refine lv_lconst (v := 1) hx hb dX7_tenThousands_0 (by decide) ?_
  refine lv_lstore_n (lv' := [(1, .long ((1 : Int64))), (0, .int a0)]) hx hb dX7_tenThousands_1 rfl hl (by decide) rfl (fun ls hl => ?_)
  refine lv_iconst (v := 0) hx hb dX7_tenThousands_2 (by decide) ?_
  refine lv_istore_n (lv' := [(3, .int ((0 : Int32))), (1, .long ((1 : Int64))), (0, .int a0)]) hx hb dX7_tenThousands_3 rfl hl (by decide) rfl (fun ls hl => ?_)
  exact BL4 FU _ _ _ hf H locs ls (lv_sub hl [2, 1, 0] rfl) hH
set_option maxHeartbeats 4000000 in
set_option maxRecDepth 100000 in
theorem C_X7_judge (l : Launch) (X : Cx) (hI : Inj X) {a0 : Nat} (t0 : tY a0 = 6) (a1 : Int32) (a2 : Int64) (h : Hp) (r0 : Int32) (h0 : Hp) (hf : f_X7_judge a0 a1 a2 h = some (r0, h0)) : Mi l X yX7_judge cX7_judge 6 (some .int) 6 149 h [.ref (X.2.2.2 a0), .int a1, .long a2] r0 h0 := by
  refine BD_of (own := RX7) hI rfl (by decide) (Nat.le_of_ble_eq_true rfl) ?_
  intro p e s m args below meth c S hr hlk hK hN
  obtain ⟨hx, hb, hml, hown, hts⟩ := id S
  have B36 : ∀ (k36 : Int32 → Hp → Option (Int32 × Hp)) (hk36 : ∀ (x4 : Int32) (h : Hp), k36 x4 h = some (r0, h0) → BK p l e ({ frames := 6, cells := 0, slots := 0, locals := 149 }) s m args below meth c (MQ below (cQi X r0 h0) args s 0 0 (AD X)) X 6 36 [(0, .ref (X.2.2.2 a0)), (1, .int a1), (2, .long a2), (4, .int x4)] [] h) (x4 : Int32) (h : Hp), g_X7_judge_36 a0 a1 a2 k36 x4 h = some (r0, h0) → BK p l e ({ frames := 6, cells := 0, slots := 0, locals := 149 }) s m args below meth c (MQ below (cQi X r0 h0) args s 0 0 (AD X)) X 6 36 [(0, .ref (X.2.2.2 a0)), (1, .int a1), (2, .long a2), (4, .int x4)] [] h := by
    intro k36 hk36 x4 h hf H locs ls hl hH
    unfold g_X7_judge_36 at hf
    refine lv_iload hx hb dX7_judge_36 (lv_at hl 3 rfl) ?_
    refine lv_iload_n hx hb dX7_judge_38 rfl (lv_at hl 1 rfl) ?_
    refine lv_icmp_ge (tgt := 103) hx hb dX7_judge_39 (by decide) (fun c1 => ?_) (fun c1 => ?_)
    · replace hf := ite_t c1 hf
      refine lv_bipush (v := (-9)) hx hb dX7_judge_103 (by decide) ?_
      exact wk_iret S hr hlk hK hN hH hf dX7_judge_105
    · replace hf := ite_f c1 hf
      refine lv_lload_n hx hb dX7_judge_42 rfl (lv_at hl 2 rfl) ?_
      refine lv_iload_n hx hb dX7_judge_43 rfl (lv_at hl 1 rfl) ?_
      refine lv_iconst (v := 1) hx hb dX7_judge_44 (by decide) ?_
      refine lv_isub hx hb dX7_judge_45 ?_
      refine lv_iload hx hb dX7_judge_46 (lv_at hl 3 rfl) ?_
      refine lv_isub hx hb dX7_judge_48 ?_
      obtain ⟨r4, h3, hq2, hf⟩ := bnd_ok hf
      refine wk_callSl (As := [.int (((a1 - (1 : Int32)) - x4))]) (rest := [.long a2]) S hK hN hH (C_X7_tenThousands l X hI ((a1 - (1 : Int32)) - x4) _ _ _ hq2) (va_cwS 1 hts (gS wU_in m_921 m_922 m_41 m_923) rfl rfl rfl hdS_X7_tenThousands ⟨Nat.le_of_ble_eq_true rfl, Nat.le_of_ble_eq_true rfl⟩) hl.1 rfl rfl (Nat.le_of_ble_eq_true rfl) dX7_judge_49 ⟨Nat.zero_le _, Nat.zero_le _⟩ (fun H locs hH => ?_)
      obtain ⟨o5, hf⟩ := ite_no hf
      refine lv_ldiv hx hb dX7_judge_52 o5 ?_
      refine lv_ldc2 hx hb hown (hts _ (wU_in _ m_924)) dX7_judge_53 ?_
      refine lv_lrem hx hb dX7_judge_56 (by decide) ?_
      refine lv_l2i hx hb dX7_judge_57 rfl ?_
      refine lv_istore (lv' := [(5, .int ((((a2 / r4) - (a2 / r4) / (10000 : Int64) * (10000 : Int64))).toInt32)), (0, .ref (X.2.2.2 a0)), (1, .int a1), (2, .long a2), (4, .int x4)]) hx hb dX7_judge_58 hl (by decide) rfl (fun ls hl => ?_)
      refine lv_aload_n hx hb dX7_judge_60 rfl (lv_at hl 1 rfl) ?_
      refine lv_iload hx hb dX7_judge_61 (lv_at hl 0 rfl) ?_
      refine lv_sipush (v := 1000) hx hb dX7_judge_63 (by decide) ?_
      refine lv_idiv hx hb dX7_judge_66 (by decide) ?_
      refine lv_iload hx hb dX7_judge_67 (lv_at hl 0 rfl) ?_
      refine lv_bipush (v := 100) hx hb dX7_judge_69 (by decide) ?_
      refine lv_idiv hx hb dX7_judge_71 (by decide) ?_
      refine lv_bipush (v := 10) hx hb dX7_judge_72 (by decide) ?_
      refine lv_irem hx hb dX7_judge_74 (by decide) ?_
      refine lv_iload hx hb dX7_judge_75 (lv_at hl 0 rfl) ?_
      refine lv_bipush (v := 10) hx hb dX7_judge_77 (by decide) ?_
      refine lv_idiv hx hb dX7_judge_79 (by decide) ?_
      refine lv_bipush (v := 10) hx hb dX7_judge_80 (by decide) ?_
      refine lv_irem hx hb dX7_judge_82 (by decide) ?_
      refine lv_iload hx hb dX7_judge_83 (lv_at hl 0 rfl) ?_
      refine lv_bipush (v := 10) hx hb dX7_judge_85 (by decide) ?_
      refine lv_irem hx hb dX7_judge_87 (by decide) ?_
      obtain ⟨r8, h7, hq6, hf⟩ := bnd_ok hf
      refine wk_callVi (ci := 6) (b := a0) (As := [.int ((((((a2 / r4) - (a2 / r4) / (10000 : Int64) * (10000 : Int64))).toInt32) / (1000 : Int32))), .int (((((((a2 / r4) - (a2 / r4) / (10000 : Int64) * (10000 : Int64))).toInt32) / (100 : Int32)) - (((((a2 / r4) - (a2 / r4) / (10000 : Int64) * (10000 : Int64))).toInt32) / (100 : Int32)) / (10 : Int32) * (10 : Int32))), .int (((((((a2 / r4) - (a2 / r4) / (10000 : Int64) * (10000 : Int64))).toInt32) / (10 : Int32)) - (((((a2 / r4) - (a2 / r4) / (10000 : Int64) * (10000 : Int64))).toInt32) / (10 : Int32)) / (10 : Int32) * (10 : Int32))), .int ((((((a2 / r4) - (a2 / r4) / (10000 : Int64) * (10000 : Int64))).toInt32) - ((((a2 / r4) - (a2 / r4) / (10000 : Int64) * (10000 : Int64))).toInt32) / (10 : Int32) * (10 : Int32)))]) (rest := []) S hK hN hH t0 (by decide) rfl (C_X7_judged l X hI t0 (((((a2 / r4) - (a2 / r4) / (10000 : Int64) * (10000 : Int64))).toInt32) / (1000 : Int32)) ((((((a2 / r4) - (a2 / r4) / (10000 : Int64) * (10000 : Int64))).toInt32) / (100 : Int32)) - (((((a2 / r4) - (a2 / r4) / (10000 : Int64) * (10000 : Int64))).toInt32) / (100 : Int32)) / (10 : Int32) * (10 : Int32)) ((((((a2 / r4) - (a2 / r4) / (10000 : Int64) * (10000 : Int64))).toInt32) / (10 : Int32)) - (((((a2 / r4) - (a2 / r4) / (10000 : Int64) * (10000 : Int64))).toInt32) / (10 : Int32)) / (10 : Int32) * (10 : Int32)) (((((a2 / r4) - (a2 / r4) / (10000 : Int64) * (10000 : Int64))).toInt32) - ((((a2 / r4) - (a2 / r4) / (10000 : Int64) * (10000 : Int64))).toInt32) / (10 : Int32) * (10 : Int32)) _ _ _ hq6) (cwV 4 hts (gV wU_in m_925 m_927 m_32 m_41 m_928) rfl rfl rfl hdV_X7_judged ⟨Nat.le_of_ble_eq_true rfl, Nat.le_of_ble_eq_true rfl⟩) hl.1 rfl rfl (Nat.le_of_ble_eq_true rfl) dX7_judge_88 ⟨Nat.zero_le _, Nat.zero_le _⟩ (fun H locs hH => ?_)
      refine lv_if_ne (tgt := 97) hx hb dX7_judge_91 (by decide) (fun c9 => ?_) (fun c9 => ?_)
      · replace hf := ite_f c9 hf
        refine lv_iinc (v := (x4 + (1 : Int32))) (lv' := [(4, .int ((x4 + (1 : Int32)))), (5, .int ((((a2 / r4) - (a2 / r4) / (10000 : Int64) * (10000 : Int64))).toInt32)), (0, .ref (X.2.2.2 a0)), (1, .int a1), (2, .long a2)]) hx hb dX7_judge_97 hl (k := 4) rfl rfl (by decide) rfl (fun ls hl => ?_)
        refine lv_goto (tgt := 36) hx hb dX7_judge_100 (by decide) ?_
        exact hk36 _ _ hf H locs ls (lv_sub hl [2, 3, 4, 0] rfl) hH
      · replace hf := ite_t c9 hf
        refine lv_iload hx hb dX7_judge_94 (lv_at hl 4 rfl) ?_
        exact wk_iret S hr hlk hK hN hH hf dX7_judge_96
  have BL36 : ∀ (n : Nat) (x4 : Int32) (h : Hp), f_X7_judge_36 a0 a1 a2 n x4 h = some (r0, h0) → BK p l e ({ frames := 6, cells := 0, slots := 0, locals := 149 }) s m args below meth c (MQ below (cQi X r0 h0) args s 0 0 (AD X)) X 6 36 [(0, .ref (X.2.2.2 a0)), (1, .int a1), (2, .long a2), (4, .int x4)] [] h := by
    intro n
    induction n with
    | zero => intro x4 h hf; cases hf
    | succ n ih => intro x4 h hf; exact B36 _ ih _ _ hf
  intro H locs ls hl hH
  replace hl : lv_has ls 6 [(0, .ref (X.2.2.2 a0)), (1, .int a1), (2, .long a2)] := hl
  unfold f_X7_judge at hf
  refine lv_iload_n hx hb dX7_judge_0 rfl (lv_at hl 1 rfl) ?_
  refine lv_i2l hx hb dX7_judge_1 rfl ?_
  refine lv_lconst (v := 1) hx hb dX7_judge_2 (by decide) ?_
  refine lv_ldc2 hx hb hown (hts _ (wU_in _ m_920)) dX7_judge_3 ?_
  obtain ⟨r12, h11, hq10, hf⟩ := bnd_ok hf
  refine wk_callSi (As := [.long ((a1).toInt64), .long ((1 : Int64)), .long ((4 : Int64))]) (rest := []) S hK hN hH (C_X7_in l X hI ((a1).toInt64) (1 : Int64) (4 : Int64) _ _ _ hq10) (va_cwS 3 hts (gS wU_in m_720 m_721 m_41 m_722) rfl rfl rfl hdS_X7_in ⟨Nat.le_of_ble_eq_true rfl, Nat.le_of_ble_eq_true rfl⟩) hl.1 rfl rfl (Nat.le_of_ble_eq_true rfl) dX7_judge_6 ⟨Nat.zero_le _, Nat.zero_le _⟩ (fun H locs hH => ?_)
  refine lv_if_eq (tgt := 26) hx hb dX7_judge_9 (by decide) (fun c13 => ?_) (fun c13 => ?_)
  · replace hf := ite_t c13 hf
    refine lv_bipush (v := (-2)) hx hb dX7_judge_26 (by decide) ?_
    exact wk_iret S hr hlk hK hN hH hf dX7_judge_28
  · replace hf := ite_f c13 hf
    refine lv_lload_n hx hb dX7_judge_12 rfl (lv_at hl 2 rfl) ?_
    refine lv_lconst (v := 0) hx hb dX7_judge_13 (by decide) ?_
    refine lv_iload_n hx hb dX7_judge_14 rfl (lv_at hl 1 rfl) ?_
    obtain ⟨r16, h15, hq14, hf⟩ := bnd_ok hf
    refine wk_callSl (As := [.int a1]) (rest := [.long ((0 : Int64)), .long a2]) S hK hN hH (C_X7_tenThousands l X hI a1 _ _ _ hq14) (va_cwS 1 hts (gS wU_in m_921 m_922 m_41 m_923) rfl rfl rfl hdS_X7_tenThousands ⟨Nat.le_of_ble_eq_true rfl, Nat.le_of_ble_eq_true rfl⟩) hl.1 rfl rfl (Nat.le_of_ble_eq_true rfl) dX7_judge_15 ⟨Nat.zero_le _, Nat.zero_le _⟩ (fun H locs hH => ?_)
    refine lv_lconst (v := 1) hx hb dX7_judge_18 (by decide) ?_
    refine lv_lsub hx hb dX7_judge_19 ?_
    obtain ⟨r19, h18, hq17, hf⟩ := bnd_ok hf
    refine wk_callSi (As := [.long a2, .long ((0 : Int64)), .long ((r16 - (1 : Int64)))]) (rest := []) S hK hN hH (C_X7_in l X hI a2 (0 : Int64) (r16 - (1 : Int64)) _ _ _ hq17) (va_cwS 3 hts (gS wU_in m_720 m_721 m_41 m_722) rfl rfl rfl hdS_X7_in ⟨Nat.le_of_ble_eq_true rfl, Nat.le_of_ble_eq_true rfl⟩) hl.1 rfl rfl (Nat.le_of_ble_eq_true rfl) dX7_judge_20 ⟨Nat.zero_le _, Nat.zero_le _⟩ (fun H locs hH => ?_)
    refine lv_if_ne (tgt := 29) hx hb dX7_judge_23 (by decide) (fun c20 => ?_) (fun c20 => ?_)
    · replace hf := ite_f c20 hf
      refine lv_aload_n hx hb dX7_judge_29 rfl (lv_at hl 0 rfl) ?_
      obtain ⟨h22, hq21, hf⟩ := bind_ok hf
      refine wk_callVv (ci := 6) (b := a0) (As := []) (rest := []) S hK hN hH t0 (by decide) rfl (C_X7_layTrial l X hI t0 _ _ hq21) (cwV 0 hts (gV wU_in m_900 m_902 m_28 m_41 m_903) rfl rfl rfl hdV_X7_layTrial ⟨Nat.le_of_ble_eq_true rfl, Nat.le_of_ble_eq_true rfl⟩) hl.1 rfl rfl (Nat.le_of_ble_eq_true rfl) dX7_judge_30 ⟨Nat.zero_le _, Nat.zero_le _⟩ (fun H locs hH => ?_)
      refine lv_iconst (v := 0) hx hb dX7_judge_33 (by decide) ?_
      refine lv_istore (lv' := [(4, .int ((0 : Int32))), (0, .ref (X.2.2.2 a0)), (1, .int a1), (2, .long a2)]) hx hb dX7_judge_34 hl (by decide) rfl (fun ls hl => ?_)
      exact BL36 FU _ _ hf H locs ls (lv_sub hl [1, 2, 3, 0] rfl) hH
    · replace hf := ite_t c20 hf
      refine lv_bipush (v := (-2)) hx hb dX7_judge_26 (by decide) ?_
      exact wk_iret S hr hlk hK hN hH hf dX7_judge_28
set_option maxHeartbeats 4000000 in
set_option maxRecDepth 100000 in
theorem C_X7_share (l : Launch) (X : Cx) (hI : Inj X) {a0 : Nat} (t0 : tY a0 = 6) (a1 : Int32) (a2 : Int32) (h : Hp) (r0 : Int32) (h0 : Hp) (hf : f_X7_share a0 a1 a2 h = some (r0, h0)) : Mi l X yX7_share cX7_share 7 (some .int) 5 127 h [.ref (X.2.2.2 a0), .int a1, .int a2] r0 h0 := by
  refine BD_of (own := RX7) hI rfl (by decide) (Nat.le_of_ble_eq_true rfl) ?_
  intro p e s m args below meth c S hr hlk hK hN
  obtain ⟨hx, hb, hml, hown, hts⟩ := id S
  have B131 : ∀ (k48 : Int32 → Int32 → Hp → Option (Int32 × Hp)) (hk48 : ∀ (x3 : Int32) (x4 : Int32) (h : Hp), k48 x3 x4 h = some (r0, h0) → BK p l e ({ frames := 5, cells := 0, slots := 0, locals := 127 }) s m args below meth c (MQ below (cQi X r0 h0) args s 0 0 (AD X)) X 7 48 [(0, .ref (X.2.2.2 a0)), (1, .int a1), (2, .int a2), (3, .int x3), (4, .int x4)] [] h) (x3 : Int32) (x4 : Int32) (h : Hp), g_X7_share_131 a0 a1 a2 k48 x3 x4 h = some (r0, h0) → BK p l e ({ frames := 5, cells := 0, slots := 0, locals := 127 }) s m args below meth c (MQ below (cQi X r0 h0) args s 0 0 (AD X)) X 7 131 [(0, .ref (X.2.2.2 a0)), (1, .int a1), (2, .int a2), (3, .int x3), (4, .int x4)] [] h := by
    intro k48 hk48 x3 x4 h hf H locs ls hl hH
    unfold g_X7_share_131 at hf
    refine lv_iinc (v := (x4 + (1 : Int32))) (lv' := [(4, .int ((x4 + (1 : Int32)))), (0, .ref (X.2.2.2 a0)), (1, .int a1), (2, .int a2), (3, .int x3)]) hx hb dX7_share_131 hl (k := 4) rfl rfl (by decide) rfl (fun ls hl => ?_)
    refine lv_goto (tgt := 48) hx hb dX7_share_134 (by decide) ?_
    exact hk48 _ _ _ hf H locs ls (lv_sub hl [1, 2, 3, 4, 0] rfl) hH
  have B76 : ∀ (k48 : Int32 → Int32 → Hp → Option (Int32 × Hp)) (hk48 : ∀ (x3 : Int32) (x4 : Int32) (h : Hp), k48 x3 x4 h = some (r0, h0) → BK p l e ({ frames := 5, cells := 0, slots := 0, locals := 127 }) s m args below meth c (MQ below (cQi X r0 h0) args s 0 0 (AD X)) X 7 48 [(0, .ref (X.2.2.2 a0)), (1, .int a1), (2, .int a2), (3, .int x3), (4, .int x4)] [] h) (k76 : Int32 → Int32 → Int32 → Int32 → Hp → Option (Int32 × Hp)) (hk76 : ∀ (x3 : Int32) (x4 : Int32) (x5 : Int32) (x6 : Int32) (h : Hp), k76 x3 x4 x5 x6 h = some (r0, h0) → BK p l e ({ frames := 5, cells := 0, slots := 0, locals := 127 }) s m args below meth c (MQ below (cQi X r0 h0) args s 0 0 (AD X)) X 7 76 [(0, .ref (X.2.2.2 a0)), (1, .int a1), (2, .int a2), (3, .int x3), (4, .int x4), (5, .int x5), (6, .int x6)] [] h) (x3 : Int32) (x4 : Int32) (x5 : Int32) (x6 : Int32) (h : Hp), g_X7_share_76 a0 a1 a2 k48 k76 x3 x4 x5 x6 h = some (r0, h0) → BK p l e ({ frames := 5, cells := 0, slots := 0, locals := 127 }) s m args below meth c (MQ below (cQi X r0 h0) args s 0 0 (AD X)) X 7 76 [(0, .ref (X.2.2.2 a0)), (1, .int a1), (2, .int a2), (3, .int x3), (4, .int x4), (5, .int x5), (6, .int x6)] [] h := by
    intro k48 hk48 k76 hk76 x3 x4 x5 x6 h hf H locs ls hl hH
    unfold g_X7_share_76 at hf
    refine lv_aload_n hx hb dX7_share_76 rfl (lv_at hl 0 rfl) ?_
    refine lv_iload hx hb dX7_share_77 (lv_at hl 4 rfl) ?_
    refine lv_iload hx hb dX7_share_79 (lv_at hl 6 rfl) ?_
    obtain ⟨r3, h2, hq1, hf⟩ := bnd_ok hf
    refine wk_callVi (ci := 6) (b := a0) (As := [.int x4, .int x6]) (rest := []) S hK hN hH t0 (by decide) rfl (C_X7_changeAt l X hI t0 x4 x6 _ _ _ hq1) (cwV 2 hts (gV wU_in m_908 m_910 m_30 m_41 m_911) rfl rfl rfl hdV_X7_changeAt ⟨Nat.le_of_ble_eq_true rfl, Nat.le_of_ble_eq_true rfl⟩) hl.1 rfl rfl (Nat.le_of_ble_eq_true rfl) dX7_share_81 ⟨Nat.zero_le _, Nat.zero_le _⟩ (fun H locs hH => ?_)
    refine lv_iload_n hx hb dX7_share_84 rfl (lv_at hl 1 rfl) ?_
    refine lv_icmp_eq (tgt := 109) hx hb dX7_share_85 (by decide) (fun c4 => ?_) (fun c4 => ?_)
    · replace hf := ite_t c4 hf
      refine lv_iload_n hx hb dX7_share_109 rfl (lv_at hl 3 rfl) ?_
      refine lv_aload_n hx hb dX7_share_110 rfl (lv_at hl 0 rfl) ?_
      refine wk_getr (ci := 6) (k := 29) S hK hH j_X7 t0 rfl hq_6_29 (hts _ (wU_in _ m_653)) dX7_share_111 ?_
      refine lv_iload hx hb dX7_share_114 (lv_at hl 5 rfl) ?_
      refine lv_iconst (v := 1) hx hb dX7_share_116 (by decide) ?_
      refine lv_iload_n hx hb dX7_share_117 rfl (lv_at hl 1 rfl) ?_
      refine lv_ishl hx hb dX7_share_118 ?_
      refine lv_ior hx hb dX7_share_119 ?_
      obtain ⟨o5, hf⟩ := ite_ok hf
      refine wk_iald S hK hH (tr_6_29 t0) o5 dX7_share_120 ?_
      refine lv_aload_n hx hb dX7_share_121 rfl (lv_at hl 0 rfl) ?_
      refine wk_getr (ci := 6) (k := 29) S hK hH j_X7 t0 rfl hq_6_29 (hts _ (wU_in _ m_653)) dX7_share_122 ?_
      refine lv_iload hx hb dX7_share_125 (lv_at hl 5 rfl) ?_
      obtain ⟨o6, hf⟩ := ite_ok hf
      refine wk_iald S hK hH (tr_6_29 t0) o6 dX7_share_127 ?_
      refine lv_isub hx hb dX7_share_128 ?_
      refine lv_iadd hx hb dX7_share_129 ?_
      refine lv_istore_n (lv' := [(3, .int ((x3 + ((h2.1 (rF a0 29) ((x5 ||| ((1 : Int32) <<< (a1 &&& (31 : Int32))))).toNatClampNeg) - (h2.1 (rF a0 29) (x5).toNatClampNeg))))), (0, .ref (X.2.2.2 a0)), (1, .int a1), (2, .int a2), (4, .int x4), (5, .int x5), (6, .int x6)]) hx hb dX7_share_130 rfl hl (by decide) rfl (fun ls hl => ?_)
      exact B131 k48 hk48 _ _ _ hf H locs ls (lv_sub hl [1, 2, 3, 0, 4] rfl) hH
    · replace hf := ite_f c4 hf
      refine lv_iload hx hb dX7_share_88 (lv_at hl 5 rfl) ?_
      refine lv_iconst (v := 1) hx hb dX7_share_90 (by decide) ?_
      refine lv_aload_n hx hb dX7_share_91 rfl (lv_at hl 0 rfl) ?_
      refine lv_iload hx hb dX7_share_92 (lv_at hl 4 rfl) ?_
      refine lv_iload hx hb dX7_share_94 (lv_at hl 6 rfl) ?_
      obtain ⟨r9, h8, hq7, hf⟩ := bnd_ok hf
      refine wk_callVi (ci := 6) (b := a0) (As := [.int x4, .int x6]) (rest := [.int ((1 : Int32)), .int x5]) S hK hN hH t0 (by decide) rfl (C_X7_changeAt l X hI t0 x4 x6 _ _ _ hq7) (cwV 2 hts (gV wU_in m_908 m_910 m_30 m_41 m_911) rfl rfl rfl hdV_X7_changeAt ⟨Nat.le_of_ble_eq_true rfl, Nat.le_of_ble_eq_true rfl⟩) hl.1 rfl rfl (Nat.le_of_ble_eq_true rfl) dX7_share_96 ⟨Nat.zero_le _, Nat.zero_le _⟩ (fun H locs hH => ?_)
      refine lv_ishl hx hb dX7_share_99 ?_
      refine lv_ior hx hb dX7_share_100 ?_
      refine lv_istore (lv' := [(5, .int ((x5 ||| ((1 : Int32) <<< (r9 &&& (31 : Int32)))))), (0, .ref (X.2.2.2 a0)), (1, .int a1), (2, .int a2), (3, .int x3), (4, .int x4), (6, .int x6)]) hx hb dX7_share_101 hl (by decide) rfl (fun ls hl => ?_)
      refine lv_iinc (v := (x6 + (1 : Int32))) (lv' := [(6, .int ((x6 + (1 : Int32)))), (5, .int ((x5 ||| ((1 : Int32) <<< (r9 &&& (31 : Int32)))))), (0, .ref (X.2.2.2 a0)), (1, .int a1), (2, .int a2), (3, .int x3), (4, .int x4)]) hx hb dX7_share_103 hl (k := 6) rfl rfl (by decide) rfl (fun ls hl => ?_)
      refine lv_goto (tgt := 76) hx hb dX7_share_106 (by decide) ?_
      exact hk76 _ _ _ _ _ hf H locs ls (lv_sub hl [2, 3, 4, 5, 6, 1, 0] rfl) hH
  have BL76 : ∀ (k48 : Int32 → Int32 → Hp → Option (Int32 × Hp)) (hk48 : ∀ (x3 : Int32) (x4 : Int32) (h : Hp), k48 x3 x4 h = some (r0, h0) → BK p l e ({ frames := 5, cells := 0, slots := 0, locals := 127 }) s m args below meth c (MQ below (cQi X r0 h0) args s 0 0 (AD X)) X 7 48 [(0, .ref (X.2.2.2 a0)), (1, .int a1), (2, .int a2), (3, .int x3), (4, .int x4)] [] h) (n : Nat) (x3 : Int32) (x4 : Int32) (x5 : Int32) (x6 : Int32) (h : Hp), f_X7_share_76 a0 a1 a2 k48 n x3 x4 x5 x6 h = some (r0, h0) → BK p l e ({ frames := 5, cells := 0, slots := 0, locals := 127 }) s m args below meth c (MQ below (cQi X r0 h0) args s 0 0 (AD X)) X 7 76 [(0, .ref (X.2.2.2 a0)), (1, .int a1), (2, .int a2), (3, .int x3), (4, .int x4), (5, .int x5), (6, .int x6)] [] h := by
    intro k48 hk48 n
    induction n with
    | zero => intro x3 x4 x5 x6 h hf; cases hf
    | succ n ih => intro x3 x4 x5 x6 h hf; exact B76 k48 hk48 _ ih _ _ _ _ _ hf
  have B48 : ∀ (k48 : Int32 → Int32 → Hp → Option (Int32 × Hp)) (hk48 : ∀ (x3 : Int32) (x4 : Int32) (h : Hp), k48 x3 x4 h = some (r0, h0) → BK p l e ({ frames := 5, cells := 0, slots := 0, locals := 127 }) s m args below meth c (MQ below (cQi X r0 h0) args s 0 0 (AD X)) X 7 48 [(0, .ref (X.2.2.2 a0)), (1, .int a1), (2, .int a2), (3, .int x3), (4, .int x4)] [] h) (x3 : Int32) (x4 : Int32) (h : Hp), g_X7_share_48 a0 a1 a2 k48 x3 x4 h = some (r0, h0) → BK p l e ({ frames := 5, cells := 0, slots := 0, locals := 127 }) s m args below meth c (MQ below (cQi X r0 h0) args s 0 0 (AD X)) X 7 48 [(0, .ref (X.2.2.2 a0)), (1, .int a1), (2, .int a2), (3, .int x3), (4, .int x4)] [] h := by
    intro k48 hk48 x3 x4 h hf H locs ls hl hH
    unfold g_X7_share_48 at hf
    refine lv_iload hx hb dX7_share_48 (lv_at hl 4 rfl) ?_
    refine lv_iconst (v := 1) hx hb dX7_share_50 (by decide) ?_
    refine lv_iconst (v := 2) hx hb dX7_share_51 (by decide) ?_
    refine lv_aload_n hx hb dX7_share_52 rfl (lv_at hl 0 rfl) ?_
    refine wk_geti (ci := 6) (k := 13) S hK hH j_X7 t0 rfl hq_6_13 (hts _ (wU_in _ m_637)) dX7_share_53 ?_
    refine lv_imul hx hb dX7_share_56 ?_
    refine lv_ishl hx hb dX7_share_57 ?_
    refine lv_icmp_ge (tgt := 137) hx hb dX7_share_58 (by decide) (fun c10 => ?_) (fun c10 => ?_)
    · replace hf := ite_t c10 hf
      refine lv_iload_n hx hb dX7_share_137 rfl (lv_at hl 3 rfl) ?_
      refine lv_aload_n hx hb dX7_share_138 rfl (lv_at hl 0 rfl) ?_
      refine wk_geti (ci := 6) (k := 13) S hK hH j_X7 t0 rfl hq_6_13 (hts _ (wU_in _ m_637)) dX7_share_139 ?_
      obtain ⟨r13, h12, hq11, hf⟩ := bnd_ok hf
      refine wk_callSi (As := [.int ((h.1 a0 13))]) (rest := [.int x3]) S hK hN hH (C_X7_factorial l X hI (h.1 a0 13) _ _ _ hq11) (va_cwS 1 hts (gS wU_in m_933 m_934 m_41 m_935) rfl rfl rfl hdS_X7_factorial ⟨Nat.le_of_ble_eq_true rfl, Nat.le_of_ble_eq_true rfl⟩) hl.1 rfl rfl (Nat.le_of_ble_eq_true rfl) dX7_share_142 ⟨Nat.zero_le _, Nat.zero_le _⟩ (fun H locs hH => ?_)
      refine lv_iload_n hx hb dX7_share_145 rfl (lv_at hl 2 rfl) ?_
      obtain ⟨r16, h15, hq14, hf⟩ := bnd_ok hf
      refine wk_callSi (As := [.int x3, .int r13, .int a2]) (rest := []) S hK hN hH (C_X7_fraction l X hI x3 r13 a2 _ _ _ hq14) (va_cwS 3 hts (gS wU_in m_936 m_937 m_41 m_938) rfl rfl rfl hdS_X7_fraction ⟨Nat.le_of_ble_eq_true rfl, Nat.le_of_ble_eq_true rfl⟩) hl.1 rfl rfl (Nat.le_of_ble_eq_true rfl) dX7_share_146 ⟨Nat.zero_le _, Nat.zero_le _⟩ (fun H locs hH => ?_)
      exact wk_iret S hr hlk hK hN hH hf dX7_share_149
    · replace hf := ite_f c10 hf
      refine lv_aload_n hx hb dX7_share_61 rfl (lv_at hl 0 rfl) ?_
      refine lv_iload hx hb dX7_share_62 (lv_at hl 4 rfl) ?_
      obtain ⟨r19, h18, hq17, hf⟩ := bnd_ok hf
      refine wk_callVi (ci := 6) (b := a0) (As := [.int x4]) (rest := []) S hK hN hH t0 (by decide) rfl (C_X7_isOrder l X hI t0 x4 _ _ _ hq17) (cwV 1 hts (gV wU_in m_904 m_906 m_29 m_41 m_907) rfl rfl rfl hdV_X7_isOrder ⟨Nat.le_of_ble_eq_true rfl, Nat.le_of_ble_eq_true rfl⟩) hl.1 rfl rfl (Nat.le_of_ble_eq_true rfl) dX7_share_64 ⟨Nat.zero_le _, Nat.zero_le _⟩ (fun H locs hH => ?_)
      refine lv_if_eq (tgt := 131) hx hb dX7_share_67 (by decide) (fun c20 => ?_) (fun c20 => ?_)
      · replace hf := ite_t c20 hf
        exact B131 k48 hk48 _ _ _ hf H locs ls (lv_sub hl [0, 1, 2, 3, 4] rfl) hH
      · replace hf := ite_f c20 hf
        refine lv_iconst (v := 0) hx hb dX7_share_70 (by decide) ?_
        refine lv_istore (lv' := [(5, .int ((0 : Int32))), (0, .ref (X.2.2.2 a0)), (1, .int a1), (2, .int a2), (3, .int x3), (4, .int x4)]) hx hb dX7_share_71 hl (by decide) rfl (fun ls hl => ?_)
        refine lv_iconst (v := 0) hx hb dX7_share_73 (by decide) ?_
        refine lv_istore (lv' := [(6, .int ((0 : Int32))), (5, .int ((0 : Int32))), (0, .ref (X.2.2.2 a0)), (1, .int a1), (2, .int a2), (3, .int x3), (4, .int x4)]) hx hb dX7_share_74 hl (by decide) rfl (fun ls hl => ?_)
        exact BL76 k48 hk48 FU _ _ _ _ _ hf H locs ls (lv_sub hl [2, 3, 4, 5, 6, 1, 0] rfl) hH
  have BL48 : ∀ (n : Nat) (x3 : Int32) (x4 : Int32) (h : Hp), f_X7_share_48 a0 a1 a2 n x3 x4 h = some (r0, h0) → BK p l e ({ frames := 5, cells := 0, slots := 0, locals := 127 }) s m args below meth c (MQ below (cQi X r0 h0) args s 0 0 (AD X)) X 7 48 [(0, .ref (X.2.2.2 a0)), (1, .int a1), (2, .int a2), (3, .int x3), (4, .int x4)] [] h := by
    intro n
    induction n with
    | zero => intro x3 x4 h hf; cases hf
    | succ n ih => intro x3 x4 h hf; exact B48 _ ih _ _ _ hf
  have B12 : ∀ (k12 : Int32 → Hp → Option (Int32 × Hp)) (hk12 : ∀ (x3 : Int32) (h : Hp), k12 x3 h = some (r0, h0) → BK p l e ({ frames := 5, cells := 0, slots := 0, locals := 127 }) s m args below meth c (MQ below (cQi X r0 h0) args s 0 0 (AD X)) X 7 12 [(0, .ref (X.2.2.2 a0)), (1, .int a1), (2, .int a2), (3, .int x3)] [] h) (x3 : Int32) (h : Hp), g_X7_share_12 a0 a1 a2 k12 x3 h = some (r0, h0) → BK p l e ({ frames := 5, cells := 0, slots := 0, locals := 127 }) s m args below meth c (MQ below (cQi X r0 h0) args s 0 0 (AD X)) X 7 12 [(0, .ref (X.2.2.2 a0)), (1, .int a1), (2, .int a2), (3, .int x3)] [] h := by
    intro k12 hk12 x3 h hf H locs ls hl hH
    unfold g_X7_share_12 at hf
    refine lv_iload_n hx hb dX7_share_12 rfl (lv_at hl 3 rfl) ?_
    refine lv_iconst (v := 1) hx hb dX7_share_13 (by decide) ?_
    refine lv_aload_n hx hb dX7_share_14 rfl (lv_at hl 0 rfl) ?_
    refine wk_geti (ci := 6) (k := 13) S hK hH j_X7 t0 rfl hq_6_13 (hts _ (wU_in _ m_637)) dX7_share_15 ?_
    refine lv_ishl hx hb dX7_share_18 ?_
    refine lv_icmp_ge (tgt := 43) hx hb dX7_share_19 (by decide) (fun c21 => ?_) (fun c21 => ?_)
    · replace hf := ite_t c21 hf
      refine lv_iconst (v := 0) hx hb dX7_share_43 (by decide) ?_
      refine lv_istore_n (lv' := [(3, .int ((0 : Int32))), (0, .ref (X.2.2.2 a0)), (1, .int a1), (2, .int a2)]) hx hb dX7_share_44 rfl hl (by decide) rfl (fun ls hl => ?_)
      refine lv_iconst (v := 0) hx hb dX7_share_45 (by decide) ?_
      refine lv_istore (lv' := [(4, .int ((0 : Int32))), (3, .int ((0 : Int32))), (0, .ref (X.2.2.2 a0)), (1, .int a1), (2, .int a2)]) hx hb dX7_share_46 hl (by decide) rfl (fun ls hl => ?_)
      exact BL48 FU _ _ _ hf H locs ls (lv_sub hl [2, 3, 4, 1, 0] rfl) hH
    · replace hf := ite_f c21 hf
      refine lv_aload_n hx hb dX7_share_22 rfl (lv_at hl 0 rfl) ?_
      refine wk_getr (ci := 6) (k := 29) S hK hH j_X7 t0 rfl hq_6_29 (hts _ (wU_in _ m_653)) dX7_share_23 ?_
      refine lv_iload_n hx hb dX7_share_26 rfl (lv_at hl 3 rfl) ?_
      refine lv_aload_n hx hb dX7_share_27 rfl (lv_at hl 0 rfl) ?_
      refine lv_aload_n hx hb dX7_share_28 rfl (lv_at hl 0 rfl) ?_
      refine wk_getr (ci := 6) (k := 2) S hK hH j_X7 t0 rfl hq_6_2 (hts _ (wU_in _ m_626)) dX7_share_29 ?_
      refine lv_iload_n hx hb dX7_share_32 rfl (lv_at hl 3 rfl) ?_
      obtain ⟨r24, h23, hq22, hf⟩ := bnd_ok hf
      refine wk_callVi (ci := 6) (b := a0) (As := [.ref (X.2.2.2 (rF a0 2)), .int x3]) (rest := [.int x3, .ref (X.2.2.2 (rF a0 29))]) S hK hN hH t0 (by decide) rfl (C_X7_unlike l X hI t0 (tr_6_2 t0) x3 _ _ _ hq22) (cwV 2 hts (gV wU_in m_769 m_771 m_17 m_41 m_772) rfl rfl rfl hdV_X7_unlike ⟨Nat.le_of_ble_eq_true rfl, Nat.le_of_ble_eq_true rfl⟩) hl.1 rfl rfl (Nat.le_of_ble_eq_true rfl) dX7_share_33 ⟨Nat.zero_le _, Nat.zero_le _⟩ (fun H locs hH => ?_)
      obtain ⟨o25, hf⟩ := ite_ok hf
      refine wk_iast S hK hH (tr_6_29 t0) o25 dX7_share_36 (fun H locs hH => ?_)
      refine lv_iinc (v := (x3 + (1 : Int32))) (lv' := [(3, .int ((x3 + (1 : Int32)))), (0, .ref (X.2.2.2 a0)), (1, .int a1), (2, .int a2)]) hx hb dX7_share_37 hl (k := 3) rfl rfl (by decide) rfl (fun ls hl => ?_)
      refine lv_goto (tgt := 12) hx hb dX7_share_40 (by decide) ?_
      exact hk12 _ _ hf H locs ls (lv_sub hl [1, 2, 3, 0] rfl) hH
  have BL12 : ∀ (n : Nat) (x3 : Int32) (h : Hp), f_X7_share_12 a0 a1 a2 n x3 h = some (r0, h0) → BK p l e ({ frames := 5, cells := 0, slots := 0, locals := 127 }) s m args below meth c (MQ below (cQi X r0 h0) args s 0 0 (AD X)) X 7 12 [(0, .ref (X.2.2.2 a0)), (1, .int a1), (2, .int a2), (3, .int x3)] [] h := by
    intro n
    induction n with
    | zero => intro x3 h hf; cases hf
    | succ n ih => intro x3 h hf; exact B12 _ ih _ _ hf
  intro H locs ls hl hH
  replace hl : lv_has ls 7 [(0, .ref (X.2.2.2 a0)), (1, .int a1), (2, .int a2)] := hl
  unfold f_X7_share at hf
  refine lv_aload_n hx hb dX7_share_0 rfl (lv_at hl 0 rfl) ?_
  refine lv_iload_n hx hb dX7_share_1 rfl (lv_at hl 1 rfl) ?_
  obtain ⟨r28, h27, hq26, hf⟩ := bnd_ok hf
  refine wk_callVi (ci := 6) (b := a0) (As := [.int a1]) (rest := []) S hK hN hH t0 (by decide) rfl (C_X7_isChange l X hI t0 a1 _ _ _ hq26) (cwV 1 hts (gV wU_in m_830 m_832 m_25 m_41 m_833) rfl rfl rfl hdV_X7_isChange ⟨Nat.le_of_ble_eq_true rfl, Nat.le_of_ble_eq_true rfl⟩) hl.1 rfl rfl (Nat.le_of_ble_eq_true rfl) dX7_share_2 ⟨Nat.zero_le _, Nat.zero_le _⟩ (fun H locs hH => ?_)
  refine lv_if_ne (tgt := 10) hx hb dX7_share_5 (by decide) (fun c29 => ?_) (fun c29 => ?_)
  · replace hf := ite_f c29 hf
    refine lv_iconst (v := 0) hx hb dX7_share_10 (by decide) ?_
    refine lv_istore_n (lv' := [(3, .int ((0 : Int32))), (0, .ref (X.2.2.2 a0)), (1, .int a1), (2, .int a2)]) hx hb dX7_share_11 rfl hl (by decide) rfl (fun ls hl => ?_)
    exact BL12 FU _ _ hf H locs ls (lv_sub hl [1, 2, 3, 0] rfl) hH
  · replace hf := ite_t c29 hf
    refine lv_iconst (v := (-1)) hx hb dX7_share_8 (by decide) ?_
    exact wk_iret S hr hlk hK hN hH hf dX7_share_9
set_option maxHeartbeats 4000000 in
set_option maxRecDepth 100000 in
theorem C_X7_see (l : Launch) (X : Cx) (hI : Inj X) {a0 : Nat} (t0 : tY a0 = 6) (a1 : Int32) (a2 : Int32) (a3 : Int32) (a4 : Int32) (h : Hp) (r0 : Int32) (h0 : Hp) (hf : f_X7_see a0 a1 a2 a3 a4 h = some (r0, h0)) : Mi l X yX7_see cX7_see 5 (some .int) 2 46 h [.ref (X.2.2.2 a0), .int a1, .int a2, .int a3, .int a4] r0 h0 := by
  refine BD_of (own := RX7) hI rfl (by decide) (Nat.le_of_ble_eq_true rfl) ?_
  intro p e s m args below meth c S hr hlk hK hN
  obtain ⟨hx, hb, hml, hown, hts⟩ := id S
  intro H locs ls hl hH
  replace hl : lv_has ls 5 [(0, .ref (X.2.2.2 a0)), (1, .int a1), (2, .int a2), (3, .int a3), (4, .int a4)] := hl
  unfold f_X7_see at hf
  refine lv_aload_n hx hb dX7_see_0 rfl (lv_at hl 0 rfl) ?_
  refine lv_iload_n hx hb dX7_see_1 rfl (lv_at hl 1 rfl) ?_
  obtain ⟨r3, h2, hq1, hf⟩ := bnd_ok hf
  refine wk_callVi (ci := 6) (b := a0) (As := [.int a1]) (rest := []) S hK hN hH t0 (by decide) rfl (C_X7_isEnding l X hI t0 a1 _ _ _ hq1) (cwV 1 hts (gV wU_in m_822 m_824 m_24 m_41 m_825) rfl rfl rfl hdV_X7_isEnding ⟨Nat.le_of_ble_eq_true rfl, Nat.le_of_ble_eq_true rfl⟩) hl.1 rfl rfl (Nat.le_of_ble_eq_true rfl) dX7_see_2 ⟨Nat.zero_le _, Nat.zero_le _⟩ (fun H locs hH => ?_)
  refine lv_if_ne (tgt := 10) hx hb dX7_see_5 (by decide) (fun c4 => ?_) (fun c4 => ?_)
  · replace hf := ite_f c4 hf
    refine lv_iload_n hx hb dX7_see_10 rfl (lv_at hl 2 rfl) ?_
    refine lv_i2l hx hb dX7_see_11 rfl ?_
    refine lv_lconst (v := 0) hx hb dX7_see_12 (by decide) ?_
    refine lv_ldc2 hx hb hown (hts _ (wU_in _ m_920)) dX7_see_13 ?_
    obtain ⟨r7, h6, hq5, hf⟩ := bnd_ok hf
    refine wk_callSi (As := [.long ((a2).toInt64), .long ((0 : Int64)), .long ((4 : Int64))]) (rest := []) S hK hN hH (C_X7_in l X hI ((a2).toInt64) (0 : Int64) (4 : Int64) _ _ _ hq5) (va_cwS 3 hts (gS wU_in m_720 m_721 m_41 m_722) rfl rfl rfl hdS_X7_in ⟨Nat.le_of_ble_eq_true rfl, Nat.le_of_ble_eq_true rfl⟩) hl.1 rfl rfl (Nat.le_of_ble_eq_true rfl) dX7_see_16 ⟨Nat.zero_le _, Nat.zero_le _⟩ (fun H locs hH => ?_)
    refine lv_if_eq (tgt := 45) hx hb dX7_see_19 (by decide) (fun c8 => ?_) (fun c8 => ?_)
    · replace hf := ite_t c8 hf
      refine lv_bipush (v := (-2)) hx hb dX7_see_45 (by decide) ?_
      exact wk_iret S hr hlk hK hN hH hf dX7_see_47
    · replace hf := ite_f c8 hf
      refine lv_iload_n hx hb dX7_see_22 rfl (lv_at hl 3 rfl) ?_
      refine lv_i2l hx hb dX7_see_23 rfl ?_
      refine lv_lconst (v := 1) hx hb dX7_see_24 (by decide) ?_
      refine lv_ldc2 hx hb hown (hts _ (wU_in _ m_855)) dX7_see_25 ?_
      obtain ⟨r11, h10, hq9, hf⟩ := bnd_ok hf
      refine wk_callSi (As := [.long ((a3).toInt64), .long ((1 : Int64)), .long ((5 : Int64))]) (rest := []) S hK hN hH (C_X7_in l X hI ((a3).toInt64) (1 : Int64) (5 : Int64) _ _ _ hq9) (va_cwS 3 hts (gS wU_in m_720 m_721 m_41 m_722) rfl rfl rfl hdS_X7_in ⟨Nat.le_of_ble_eq_true rfl, Nat.le_of_ble_eq_true rfl⟩) hl.1 rfl rfl (Nat.le_of_ble_eq_true rfl) dX7_see_28 ⟨Nat.zero_le _, Nat.zero_le _⟩ (fun H locs hH => ?_)
      refine lv_if_eq (tgt := 45) hx hb dX7_see_31 (by decide) (fun c12 => ?_) (fun c12 => ?_)
      · replace hf := ite_t c12 hf
        refine lv_bipush (v := (-2)) hx hb dX7_see_45 (by decide) ?_
        exact wk_iret S hr hlk hK hN hH hf dX7_see_47
      · replace hf := ite_f c12 hf
        refine lv_iload hx hb dX7_see_34 (lv_at hl 4 rfl) ?_
        refine lv_i2l hx hb dX7_see_36 rfl ?_
        refine lv_lconst (v := 0) hx hb dX7_see_37 (by decide) ?_
        refine lv_lconst (v := 1) hx hb dX7_see_38 (by decide) ?_
        obtain ⟨r15, h14, hq13, hf⟩ := bnd_ok hf
        refine wk_callSi (As := [.long ((a4).toInt64), .long ((0 : Int64)), .long ((1 : Int64))]) (rest := []) S hK hN hH (C_X7_in l X hI ((a4).toInt64) (0 : Int64) (1 : Int64) _ _ _ hq13) (va_cwS 3 hts (gS wU_in m_720 m_721 m_41 m_722) rfl rfl rfl hdS_X7_in ⟨Nat.le_of_ble_eq_true rfl, Nat.le_of_ble_eq_true rfl⟩) hl.1 rfl rfl (Nat.le_of_ble_eq_true rfl) dX7_see_39 ⟨Nat.zero_le _, Nat.zero_le _⟩ (fun H locs hH => ?_)
        refine lv_if_ne (tgt := 48) hx hb dX7_see_42 (by decide) (fun c16 => ?_) (fun c16 => ?_)
        · replace hf := ite_f c16 hf
          refine lv_aload_n hx hb dX7_see_48 rfl (lv_at hl 0 rfl) ?_
          refine wk_geti (ci := 6) (k := 26) S hK hH j_X7 t0 rfl hq_6_26 (hts _ (wU_in _ m_650)) dX7_see_49 ?_
          refine lv_bipush (v := 6) hx hb dX7_see_52 (by decide) ?_
          refine lv_icmp_ne (tgt := 60) hx hb dX7_see_54 (by decide) (fun c17 => ?_) (fun c17 => ?_)
          · replace hf := ite_f c17 hf
            refine lv_aload_n hx hb dX7_see_60 rfl (lv_at hl 0 rfl) ?_
            refine wk_getr (ci := 6) (k := 22) S hK hH j_X7 t0 rfl hq_6_22 (hts _ (wU_in _ m_646)) dX7_see_61 ?_
            refine lv_aload_n hx hb dX7_see_64 rfl (lv_at hl 0 rfl) ?_
            refine wk_geti (ci := 6) (k := 26) S hK hH j_X7 t0 rfl hq_6_26 (hts _ (wU_in _ m_650)) dX7_see_65 ?_
            refine lv_iload_n hx hb dX7_see_68 rfl (lv_at hl 1 rfl) ?_
            obtain ⟨o18, hf⟩ := ite_ok hf
            refine wk_iast S hK hH (tr_6_22 t0) o18 dX7_see_69 (fun H locs hH => ?_)
            refine lv_aload_n hx hb dX7_see_70 rfl (lv_at hl 0 rfl) ?_
            refine wk_getr (ci := 6) (k := 23) S hK hH j_X7 t0 rfl hq_6_23 (hts _ (wU_in _ m_647)) dX7_see_71 ?_
            refine lv_aload_n hx hb dX7_see_74 rfl (lv_at hl 0 rfl) ?_
            refine wk_geti (ci := 6) (k := 26) S hK hH j_X7 t0 rfl hq_6_26 (hts _ (wU_in _ m_650)) dX7_see_75 ?_
            refine lv_iload_n hx hb dX7_see_78 rfl (lv_at hl 2 rfl) ?_
            obtain ⟨o19, hf⟩ := ite_ok hf
            refine wk_iast S hK hH (tr_6_23 t0) o19 dX7_see_79 (fun H locs hH => ?_)
            refine lv_aload_n hx hb dX7_see_80 rfl (lv_at hl 0 rfl) ?_
            refine wk_getr (ci := 6) (k := 24) S hK hH j_X7 t0 rfl hq_6_24 (hts _ (wU_in _ m_648)) dX7_see_81 ?_
            refine lv_aload_n hx hb dX7_see_84 rfl (lv_at hl 0 rfl) ?_
            refine wk_geti (ci := 6) (k := 26) S hK hH j_X7 t0 rfl hq_6_26 (hts _ (wU_in _ m_650)) dX7_see_85 ?_
            refine lv_iload_n hx hb dX7_see_88 rfl (lv_at hl 3 rfl) ?_
            obtain ⟨o20, hf⟩ := ite_ok hf
            refine wk_iast S hK hH (tr_6_24 t0) o20 dX7_see_89 (fun H locs hH => ?_)
            refine lv_aload_n hx hb dX7_see_90 rfl (lv_at hl 0 rfl) ?_
            refine wk_getr (ci := 6) (k := 25) S hK hH j_X7 t0 rfl hq_6_25 (hts _ (wU_in _ m_649)) dX7_see_91 ?_
            refine lv_aload_n hx hb dX7_see_94 rfl (lv_at hl 0 rfl) ?_
            refine wk_geti (ci := 6) (k := 26) S hK hH j_X7 t0 rfl hq_6_26 (hts _ (wU_in _ m_650)) dX7_see_95 ?_
            refine lv_iload hx hb dX7_see_98 (lv_at hl 4 rfl) ?_
            obtain ⟨o21, hf⟩ := ite_ok hf
            refine wk_iast S hK hH (tr_6_25 t0) o21 dX7_see_100 (fun H locs hH => ?_)
            refine lv_aload_n hx hb dX7_see_101 rfl (lv_at hl 0 rfl) ?_
            refine lv_dup hx hb dX7_see_102 rfl ?_
            refine wk_geti (ci := 6) (k := 26) S hK hH j_X7 t0 rfl hq_6_26 (hts _ (wU_in _ m_650)) dX7_see_103 ?_
            refine lv_iconst (v := 1) hx hb dX7_see_106 (by decide) ?_
            refine lv_iadd hx hb dX7_see_107 ?_
            refine wk_puti (ci := 6) (k := 26) S hK hH j_X7 tyX7 tyX7_ok nmX7 t0 rfl hq_6_26 rfl hd_6_26 (hts _ (wU_in _ m_650)) dX7_see_108 (fun H locs hH => ?_)
            refine lv_aload_n hx hb dX7_see_111 rfl (lv_at hl 0 rfl) ?_
            refine wk_geti (ci := 6) (k := 26) S hK hH j_X7 t0 rfl hq_6_26 (hts _ (wU_in _ m_650)) dX7_see_112 ?_
            exact wk_iret S hr hlk hK hN hH hf dX7_see_115
          · replace hf := ite_t c17 hf
            refine lv_bipush (v := (-4)) hx hb dX7_see_57 (by decide) ?_
            exact wk_iret S hr hlk hK hN hH hf dX7_see_59
        · replace hf := ite_t c16 hf
          refine lv_bipush (v := (-2)) hx hb dX7_see_45 (by decide) ?_
          exact wk_iret S hr hlk hK hN hH hf dX7_see_47
  · replace hf := ite_t c4 hf
    refine lv_iconst (v := (-1)) hx hb dX7_see_8 (by decide) ?_
    exact wk_iret S hr hlk hK hN hH hf dX7_see_9
set_option maxHeartbeats 4000000 in
set_option maxRecDepth 100000 in
theorem C_X7_unsee (l : Launch) (X : Cx) (hI : Inj X) {a0 : Nat} (t0 : tY a0 = 6) (h : Hp) (r0 : Int32) (h0 : Hp) (hf : f_X7_unsee a0 h = some (r0, h0)) : Mi l X yX7_unsee cX7_unsee 2 (some .int) 0 0 h [.ref (X.2.2.2 a0)] r0 h0 := by
  refine BD_of (own := RX7) hI rfl (by decide) (Nat.le_of_ble_eq_true rfl) ?_
  intro p e s m args below meth c S hr hlk hK hN
  obtain ⟨hx, hb, hml, hown, hts⟩ := id S
  intro H locs ls hl hH
  replace hl : lv_has ls 2 [(0, .ref (X.2.2.2 a0))] := hl
  unfold f_X7_unsee at hf
  refine lv_aload_n hx hb dX7_unsee_0 rfl (lv_at hl 0 rfl) ?_
  refine wk_geti (ci := 6) (k := 26) S hK hH j_X7 t0 rfl hq_6_26 (hts _ (wU_in _ m_650)) dX7_unsee_1 ?_
  refine lv_istore_n (lv' := [(1, .int ((h.1 a0 26))), (0, .ref (X.2.2.2 a0))]) hx hb dX7_unsee_4 rfl hl (by decide) rfl (fun ls hl => ?_)
  refine lv_aload_n hx hb dX7_unsee_5 rfl (lv_at hl 1 rfl) ?_
  refine lv_iconst (v := 0) hx hb dX7_unsee_6 (by decide) ?_
  refine wk_puti (ci := 6) (k := 26) S hK hH j_X7 tyX7 tyX7_ok nmX7 t0 rfl hq_6_26 rfl hd_6_26 (hts _ (wU_in _ m_650)) dX7_unsee_7 (fun H locs hH => ?_)
  refine lv_iload_n hx hb dX7_unsee_10 rfl (lv_at hl 0 rfl) ?_
  exact wk_iret S hr hlk hK hN hH hf dX7_unsee_11
set_option maxHeartbeats 4000000 in
set_option maxRecDepth 100000 in
theorem C_X7_agrees (l : Launch) (X : Cx) (hI : Inj X) {a0 : Nat} (t0 : tY a0 = 6) (a1 : Int32) (h : Hp) (r0 : Int32) (h0 : Hp) (hf : f_X7_agrees a0 a1 h = some (r0, h0)) : Mi l X yX7_agrees cX7_agrees 7 (some .boolean) 3 76 h [.ref (X.2.2.2 a0), .int a1] r0 h0 := by
  refine BD_of (own := RX7) hI rfl (by decide) (Nat.le_of_ble_eq_true rfl) ?_
  intro p e s m args below meth c S hr hlk hK hN
  obtain ⟨hx, hb, hml, hown, hts⟩ := id S
  have B115 : ∀ (k4 : Int32 → Int32 → Hp → Option (Int32 × Hp)) (hk4 : ∀ (x2 : Int32) (x3 : Int32) (h : Hp), k4 x2 x3 h = some (r0, h0) → BK p l e ({ frames := 3, cells := 0, slots := 0, locals := 76 }) s m args below meth c (MQ below (cQi X r0 h0) args s 0 0 (AD X)) X 7 4 [(0, .ref (X.2.2.2 a0)), (1, .int a1), (2, .int x2), (3, .int x3)] [] h) (x3 : Int32) (z0 : Int32) (h : Hp), g_X7_agrees_115 a0 a1 k4 x3 z0 h = some (r0, h0) → BK p l e ({ frames := 3, cells := 0, slots := 0, locals := 76 }) s m args below meth c (MQ below (cQi X r0 h0) args s 0 0 (AD X)) X 7 115 [(0, .ref (X.2.2.2 a0)), (1, .int a1), (3, .int x3)] [.int z0] h := by
    intro k4 hk4 x3 z0 h hf H locs ls hl hH
    unfold g_X7_agrees_115 at hf
    refine lv_istore_n (lv' := [(2, .int z0), (0, .ref (X.2.2.2 a0)), (1, .int a1), (3, .int x3)]) hx hb dX7_agrees_115 rfl hl (by decide) rfl (fun ls hl => ?_)
    refine lv_iinc (v := (x3 + (1 : Int32))) (lv' := [(3, .int ((x3 + (1 : Int32)))), (2, .int z0), (0, .ref (X.2.2.2 a0)), (1, .int a1)]) hx hb dX7_agrees_116 hl (k := 3) rfl rfl (by decide) rfl (fun ls hl => ?_)
    refine lv_goto (tgt := 4) hx hb dX7_agrees_119 (by decide) ?_
    exact hk4 _ _ _ hf H locs ls (lv_sub hl [2, 3, 1, 0] rfl) hH
  have B114 : ∀ (k4 : Int32 → Int32 → Hp → Option (Int32 × Hp)) (hk4 : ∀ (x2 : Int32) (x3 : Int32) (h : Hp), k4 x2 x3 h = some (r0, h0) → BK p l e ({ frames := 3, cells := 0, slots := 0, locals := 76 }) s m args below meth c (MQ below (cQi X r0 h0) args s 0 0 (AD X)) X 7 4 [(0, .ref (X.2.2.2 a0)), (1, .int a1), (2, .int x2), (3, .int x3)] [] h) (x3 : Int32) (h : Hp), g_X7_agrees_114 a0 a1 k4 x3 h = some (r0, h0) → BK p l e ({ frames := 3, cells := 0, slots := 0, locals := 76 }) s m args below meth c (MQ below (cQi X r0 h0) args s 0 0 (AD X)) X 7 114 [(0, .ref (X.2.2.2 a0)), (1, .int a1), (3, .int x3)] [] h := by
    intro k4 hk4 x3 h hf H locs ls hl hH
    unfold g_X7_agrees_114 at hf
    refine lv_iconst (v := 0) hx hb dX7_agrees_114 (by decide) ?_
    exact B115 k4 hk4 _ _ _ hf H locs ls (lv_sub hl [0, 1, 2] rfl) hH
  have B107 : ∀ (k4 : Int32 → Int32 → Hp → Option (Int32 × Hp)) (hk4 : ∀ (x2 : Int32) (x3 : Int32) (h : Hp), k4 x2 x3 h = some (r0, h0) → BK p l e ({ frames := 3, cells := 0, slots := 0, locals := 76 }) s m args below meth c (MQ below (cQi X r0 h0) args s 0 0 (AD X)) X 7 4 [(0, .ref (X.2.2.2 a0)), (1, .int a1), (2, .int x2), (3, .int x3)] [] h) (x3 : Int32) (z0 : Int32) (z1 : Int32) (h : Hp), g_X7_agrees_107 a0 a1 k4 x3 z0 z1 h = some (r0, h0) → BK p l e ({ frames := 3, cells := 0, slots := 0, locals := 76 }) s m args below meth c (MQ below (cQi X r0 h0) args s 0 0 (AD X)) X 7 107 [(0, .ref (X.2.2.2 a0)), (1, .int a1), (3, .int x3)] [.int z1, .int z0] h := by
    intro k4 hk4 x3 z0 z1 h hf H locs ls hl hH
    unfold g_X7_agrees_107 at hf
    refine lv_icmp_ne (tgt := 114) hx hb dX7_agrees_107 (by decide) (fun c1 => ?_) (fun c1 => ?_)
    · replace hf := ite_f c1 hf
      exact B114 k4 hk4 _ _ hf H locs ls (lv_sub hl [0, 1, 2] rfl) hH
    · replace hf := ite_t c1 hf
      refine lv_iconst (v := 1) hx hb dX7_agrees_110 (by decide) ?_
      refine lv_goto (tgt := 115) hx hb dX7_agrees_111 (by decide) ?_
      exact B115 k4 hk4 _ _ _ hf H locs ls (lv_sub hl [0, 1, 2] rfl) hH
  have B84 : ∀ (k4 : Int32 → Int32 → Hp → Option (Int32 × Hp)) (hk4 : ∀ (x2 : Int32) (x3 : Int32) (h : Hp), k4 x2 x3 h = some (r0, h0) → BK p l e ({ frames := 3, cells := 0, slots := 0, locals := 76 }) s m args below meth c (MQ below (cQi X r0 h0) args s 0 0 (AD X)) X 7 4 [(0, .ref (X.2.2.2 a0)), (1, .int a1), (2, .int x2), (3, .int x3)] [] h) (x2 : Int32) (x3 : Int32) (z0 : Int32) (h : Hp), g_X7_agrees_84 a0 a1 k4 x2 x3 z0 h = some (r0, h0) → BK p l e ({ frames := 3, cells := 0, slots := 0, locals := 76 }) s m args below meth c (MQ below (cQi X r0 h0) args s 0 0 (AD X)) X 7 84 [(0, .ref (X.2.2.2 a0)), (1, .int a1), (2, .int x2), (3, .int x3)] [.int z0] h := by
    intro k4 hk4 x2 x3 z0 h hf H locs ls hl hH
    unfold g_X7_agrees_84 at hf
    refine lv_istore (lv' := [(6, .int z0), (0, .ref (X.2.2.2 a0)), (1, .int a1), (2, .int x2), (3, .int x3)]) hx hb dX7_agrees_84 hl (by decide) rfl (fun ls hl => ?_)
    refine lv_iload_n hx hb dX7_agrees_86 rfl (lv_at hl 3 rfl) ?_
    refine lv_if_eq (tgt := 114) hx hb dX7_agrees_87 (by decide) (fun c2 => ?_) (fun c2 => ?_)
    · replace hf := ite_t c2 hf
      exact B114 k4 hk4 _ _ hf H locs ls (lv_sub hl [1, 2, 4] rfl) hH
    · replace hf := ite_f c2 hf
      refine lv_iload hx hb dX7_agrees_90 (lv_at hl 0 rfl) ?_
      refine lv_aload_n hx hb dX7_agrees_92 rfl (lv_at hl 1 rfl) ?_
      refine wk_getr (ci := 6) (k := 25) S hK hH j_X7 t0 rfl hq_6_25 (hts _ (wU_in _ m_649)) dX7_agrees_93 ?_
      refine lv_iload_n hx hb dX7_agrees_96 rfl (lv_at hl 4 rfl) ?_
      obtain ⟨o3, hf⟩ := ite_ok hf
      refine wk_iald S hK hH (tr_6_25 t0) o3 dX7_agrees_97 ?_
      refine lv_iconst (v := 1) hx hb dX7_agrees_98 (by decide) ?_
      refine lv_icmp_ne (tgt := 106) hx hb dX7_agrees_99 (by decide) (fun c4 => ?_) (fun c4 => ?_)
      · replace hf := ite_f c4 hf
        refine lv_iconst (v := 0) hx hb dX7_agrees_106 (by decide) ?_
        exact B107 k4 hk4 _ _ _ _ hf H locs ls (lv_sub hl [1, 2, 4] rfl) hH
      · replace hf := ite_t c4 hf
        refine lv_iconst (v := 1) hx hb dX7_agrees_102 (by decide) ?_
        refine lv_goto (tgt := 107) hx hb dX7_agrees_103 (by decide) ?_
        exact B107 k4 hk4 _ _ _ _ hf H locs ls (lv_sub hl [1, 2, 4] rfl) hH
  have B57 : ∀ (k4 : Int32 → Int32 → Hp → Option (Int32 × Hp)) (hk4 : ∀ (x2 : Int32) (x3 : Int32) (h : Hp), k4 x2 x3 h = some (r0, h0) → BK p l e ({ frames := 3, cells := 0, slots := 0, locals := 76 }) s m args below meth c (MQ below (cQi X r0 h0) args s 0 0 (AD X)) X 7 4 [(0, .ref (X.2.2.2 a0)), (1, .int a1), (2, .int x2), (3, .int x3)] [] h) (x2 : Int32) (x3 : Int32) (z0 : Int32) (h : Hp), g_X7_agrees_57 a0 a1 k4 x2 x3 z0 h = some (r0, h0) → BK p l e ({ frames := 3, cells := 0, slots := 0, locals := 76 }) s m args below meth c (MQ below (cQi X r0 h0) args s 0 0 (AD X)) X 7 57 [(0, .ref (X.2.2.2 a0)), (1, .int a1), (2, .int x2), (3, .int x3)] [.int z0] h := by
    intro k4 hk4 x2 x3 z0 h hf H locs ls hl hH
    unfold g_X7_agrees_57 at hf
    refine lv_istore (lv' := [(5, .int z0), (0, .ref (X.2.2.2 a0)), (1, .int a1), (2, .int x2), (3, .int x3)]) hx hb dX7_agrees_57 hl (by decide) rfl (fun ls hl => ?_)
    refine lv_iload hx hb dX7_agrees_59 (lv_at hl 0 rfl) ?_
    refine lv_aload_n hx hb dX7_agrees_61 rfl (lv_at hl 1 rfl) ?_
    refine wk_getr (ci := 6) (k := 23) S hK hH j_X7 t0 rfl hq_6_23 (hts _ (wU_in _ m_647)) dX7_agrees_62 ?_
    refine lv_iload_n hx hb dX7_agrees_65 rfl (lv_at hl 4 rfl) ?_
    obtain ⟨o5, hf⟩ := ite_ok hf
    refine wk_iald S hK hH (tr_6_23 t0) o5 dX7_agrees_66 ?_
    obtain ⟨r8, h7, hq6, hf⟩ := bnd_ok hf
    refine wk_callSi (As := [.int z0, .int ((h.1 (rF a0 23) (x3).toNatClampNeg))]) (rest := []) S hK hN hH (C_X7_letterAt l X hI z0 (h.1 (rF a0 23) (x3).toNatClampNeg) _ _ _ hq6) (va_cwS 2 hts (gS wU_in m_958 m_959 m_41 m_960) rfl rfl rfl hdS_X7_letterAt ⟨Nat.le_of_ble_eq_true rfl, Nat.le_of_ble_eq_true rfl⟩) hl.1 rfl rfl (Nat.le_of_ble_eq_true rfl) dX7_agrees_67 ⟨Nat.zero_le _, Nat.zero_le _⟩ (fun H locs hH => ?_)
    refine lv_aload_n hx hb dX7_agrees_70 rfl (lv_at hl 1 rfl) ?_
    refine wk_getr (ci := 6) (k := 24) S hK hH j_X7 t0 rfl hq_6_24 (hts _ (wU_in _ m_648)) dX7_agrees_71 ?_
    refine lv_iload_n hx hb dX7_agrees_74 rfl (lv_at hl 4 rfl) ?_
    obtain ⟨o9, hf⟩ := ite_ok hf
    refine wk_iald S hK hH (tr_6_24 t0) o9 dX7_agrees_75 ?_
    refine lv_icmp_ne (tgt := 83) hx hb dX7_agrees_76 (by decide) (fun c10 => ?_) (fun c10 => ?_)
    · replace hf := ite_f c10 hf
      refine lv_iconst (v := 0) hx hb dX7_agrees_83 (by decide) ?_
      exact B84 k4 hk4 _ _ _ _ hf H locs ls (lv_sub hl [1, 2, 3, 4] rfl) hH
    · replace hf := ite_t c10 hf
      refine lv_iconst (v := 1) hx hb dX7_agrees_79 (by decide) ?_
      refine lv_goto (tgt := 84) hx hb dX7_agrees_80 (by decide) ?_
      exact B84 k4 hk4 _ _ _ _ hf H locs ls (lv_sub hl [1, 2, 3, 4] rfl) hH
  have B4 : ∀ (k4 : Int32 → Int32 → Hp → Option (Int32 × Hp)) (hk4 : ∀ (x2 : Int32) (x3 : Int32) (h : Hp), k4 x2 x3 h = some (r0, h0) → BK p l e ({ frames := 3, cells := 0, slots := 0, locals := 76 }) s m args below meth c (MQ below (cQi X r0 h0) args s 0 0 (AD X)) X 7 4 [(0, .ref (X.2.2.2 a0)), (1, .int a1), (2, .int x2), (3, .int x3)] [] h) (x2 : Int32) (x3 : Int32) (h : Hp), g_X7_agrees_4 a0 a1 k4 x2 x3 h = some (r0, h0) → BK p l e ({ frames := 3, cells := 0, slots := 0, locals := 76 }) s m args below meth c (MQ below (cQi X r0 h0) args s 0 0 (AD X)) X 7 4 [(0, .ref (X.2.2.2 a0)), (1, .int a1), (2, .int x2), (3, .int x3)] [] h := by
    intro k4 hk4 x2 x3 h hf H locs ls hl hH
    unfold g_X7_agrees_4 at hf
    refine lv_iload_n hx hb dX7_agrees_4 rfl (lv_at hl 3 rfl) ?_
    refine lv_aload_n hx hb dX7_agrees_5 rfl (lv_at hl 0 rfl) ?_
    refine wk_geti (ci := 6) (k := 26) S hK hH j_X7 t0 rfl hq_6_26 (hts _ (wU_in _ m_650)) dX7_agrees_6 ?_
    refine lv_icmp_ge (tgt := 122) hx hb dX7_agrees_9 (by decide) (fun c11 => ?_) (fun c11 => ?_)
    · replace hf := ite_t c11 hf
      refine lv_iload_n hx hb dX7_agrees_122 rfl (lv_at hl 2 rfl) ?_
      obtain ⟨o12, hf⟩ := ite_ok hf
      exact wk_zret S hr hlk hK hN hH (okZ_nar o12) hf dX7_agrees_123
    · replace hf := ite_f c11 hf
      refine lv_aload_n hx hb dX7_agrees_12 rfl (lv_at hl 0 rfl) ?_
      refine wk_getr (ci := 6) (k := 22) S hK hH j_X7 t0 rfl hq_6_22 (hts _ (wU_in _ m_646)) dX7_agrees_13 ?_
      refine lv_iload_n hx hb dX7_agrees_16 rfl (lv_at hl 3 rfl) ?_
      obtain ⟨o13, hf⟩ := ite_ok hf
      refine wk_iald S hK hH (tr_6_22 t0) o13 dX7_agrees_17 ?_
      refine lv_istore (lv' := [(4, .int ((h.1 (rF a0 22) (x3).toNatClampNeg))), (0, .ref (X.2.2.2 a0)), (1, .int a1), (2, .int x2), (3, .int x3)]) hx hb dX7_agrees_18 hl (by decide) rfl (fun ls hl => ?_)
      refine lv_aload_n hx hb dX7_agrees_20 rfl (lv_at hl 1 rfl) ?_
      refine lv_iload hx hb dX7_agrees_21 (lv_at hl 0 rfl) ?_
      obtain ⟨r16, h15, hq14, hf⟩ := bnd_ok hf
      refine wk_callVi (ci := 6) (b := a0) (As := [.int ((h.1 (rF a0 22) (x3).toNatClampNeg))]) (rest := []) S hK hN hH t0 (by decide) rfl (C_X7_isEnding l X hI t0 (h.1 (rF a0 22) (x3).toNatClampNeg) _ _ _ hq14) (cwV 1 hts (gV wU_in m_822 m_824 m_24 m_41 m_825) rfl rfl rfl hdV_X7_isEnding ⟨Nat.le_of_ble_eq_true rfl, Nat.le_of_ble_eq_true rfl⟩) hl.1 rfl rfl (Nat.le_of_ble_eq_true rfl) dX7_agrees_23 ⟨Nat.zero_le _, Nat.zero_le _⟩ (fun H locs hH => ?_)
      refine lv_if_eq (tgt := 56) hx hb dX7_agrees_26 (by decide) (fun c17 => ?_) (fun c17 => ?_)
      · replace hf := ite_t c17 hf
        refine lv_iconst (v := 0) hx hb dX7_agrees_56 (by decide) ?_
        exact B57 k4 hk4 _ _ _ _ hf H locs ls (lv_sub hl [1, 2, 3, 4] rfl) hH
      · replace hf := ite_f c17 hf
        refine lv_aload_n hx hb dX7_agrees_29 rfl (lv_at hl 1 rfl) ?_
        refine wk_getr (ci := 6) (k := 2) S hK hH j_X7 t0 rfl hq_6_2 (hts _ (wU_in _ m_626)) dX7_agrees_30 ?_
        refine lv_iload_n hx hb dX7_agrees_33 rfl (lv_at hl 2 rfl) ?_
        refine lv_aload_n hx hb dX7_agrees_34 rfl (lv_at hl 1 rfl) ?_
        refine wk_getr (ci := 6) (k := 10) S hK hH j_X7 t0 rfl hq_6_10 (hts _ (wU_in _ m_634)) dX7_agrees_35 ?_
        refine lv_iload hx hb dX7_agrees_38 (lv_at hl 0 rfl) ?_
        obtain ⟨o18, hf⟩ := ite_ok hf
        refine wk_iald S hK hH (tr_6_10 t0) o18 dX7_agrees_40 ?_
        obtain ⟨r21, h20, hq19, hf⟩ := bnd_ok hf
        refine wk_callSi (As := [.int a1, .int ((h15.1 (rF a0 10) ((h.1 (rF a0 22) (x3).toNatClampNeg)).toNatClampNeg))]) (rest := [.ref (X.2.2.2 (rF a0 2))]) S hK hN hH (C_X7_join l X hI a1 (h15.1 (rF a0 10) ((h.1 (rF a0 22) (x3).toNatClampNeg)).toNatClampNeg) _ _ _ hq19) (va_cwS 2 hts (gS wU_in m_781 m_782 m_41 m_783) rfl rfl rfl hdS_X7_join ⟨Nat.le_of_ble_eq_true rfl, Nat.le_of_ble_eq_true rfl⟩) hl.1 rfl rfl (Nat.le_of_ble_eq_true rfl) dX7_agrees_41 ⟨Nat.zero_le _, Nat.zero_le _⟩ (fun H locs hH => ?_)
        refine lv_aload_n hx hb dX7_agrees_44 rfl (lv_at hl 1 rfl) ?_
        refine wk_geti (ci := 6) (k := 13) S hK hH j_X7 t0 rfl hq_6_13 (hts _ (wU_in _ m_637)) dX7_agrees_45 ?_
        refine lv_bipush (v := 15) hx hb dX7_agrees_48 (by decide) ?_
        obtain ⟨r24, h23, hq22, hf⟩ := bnd_ok hf
        refine wk_callSi (As := [.ref (X.2.2.2 (rF a0 2)), .int r21, .int ((h20.1 a0 13)), .int ((15 : Int32))]) (rest := []) S hK hN hH (C_X7_behindAll l X hI (tr_6_2 t0) r21 (h20.1 a0 13) (15 : Int32) _ _ _ hq22) (va_cwS 4 hts (gS wU_in m_790 m_791 m_41 m_792) rfl rfl rfl hdS_X7_behindAll ⟨Nat.le_of_ble_eq_true rfl, Nat.le_of_ble_eq_true rfl⟩) hl.1 rfl rfl (Nat.le_of_ble_eq_true rfl) dX7_agrees_50 ⟨Nat.zero_le _, Nat.zero_le _⟩ (fun H locs hH => ?_)
        refine lv_goto (tgt := 57) hx hb dX7_agrees_53 (by decide) ?_
        exact B57 k4 hk4 _ _ _ _ hf H locs ls (lv_sub hl [1, 2, 3, 4] rfl) hH
  have BL4 : ∀ (n : Nat) (x2 : Int32) (x3 : Int32) (h : Hp), f_X7_agrees_4 a0 a1 n x2 x3 h = some (r0, h0) → BK p l e ({ frames := 3, cells := 0, slots := 0, locals := 76 }) s m args below meth c (MQ below (cQi X r0 h0) args s 0 0 (AD X)) X 7 4 [(0, .ref (X.2.2.2 a0)), (1, .int a1), (2, .int x2), (3, .int x3)] [] h := by
    intro n
    induction n with
    | zero => intro x2 x3 h hf; cases hf
    | succ n ih => intro x2 x3 h hf; exact B4 _ ih _ _ _ hf
  intro H locs ls hl hH
  replace hl : lv_has ls 7 [(0, .ref (X.2.2.2 a0)), (1, .int a1)] := hl
  unfold f_X7_agrees at hf
  refine lv_iconst (v := 1) hx hb dX7_agrees_0 (by decide) ?_
  refine lv_istore_n (lv' := [(2, .int ((1 : Int32))), (0, .ref (X.2.2.2 a0)), (1, .int a1)]) hx hb dX7_agrees_1 rfl hl (by decide) rfl (fun ls hl => ?_)
  refine lv_iconst (v := 0) hx hb dX7_agrees_2 (by decide) ?_
  refine lv_istore_n (lv' := [(3, .int ((0 : Int32))), (2, .int ((1 : Int32))), (0, .ref (X.2.2.2 a0)), (1, .int a1)]) hx hb dX7_agrees_3 rfl hl (by decide) rfl (fun ls hl => ?_)
  exact BL4 FU _ _ _ hf H locs ls (lv_sub hl [2, 3, 1, 0] rfl) hH
set_option maxHeartbeats 4000000 in
set_option maxRecDepth 100000 in
theorem C_X7_which (l : Launch) (X : Cx) (hI : Inj X) {a0 : Nat} (t0 : tY a0 = 6) (a1 : Int32) (h : Hp) (r0 : Int32) (h0 : Hp) (hf : f_X7_which a0 a1 h = some (r0, h0)) : Mi l X yX7_which cX7_which 6 (some .int) 4 102 h [.ref (X.2.2.2 a0), .int a1] r0 h0 := by
  refine BD_of (own := RX7) hI rfl (by decide) (Nat.le_of_ble_eq_true rfl) ?_
  intro p e s m args below meth c S hr hlk hK hN
  obtain ⟨hx, hb, hml, hown, hts⟩ := id S
  have B73 : ∀ (k22 : Int32 → Int32 → Int32 → Hp → Option (Int32 × Hp)) (hk22 : ∀ (x2 : Int32) (x3 : Int32) (x4 : Int32) (h : Hp), k22 x2 x3 x4 h = some (r0, h0) → BK p l e ({ frames := 4, cells := 0, slots := 0, locals := 102 }) s m args below meth c (MQ below (cQi X r0 h0) args s 0 0 (AD X)) X 6 22 [(0, .ref (X.2.2.2 a0)), (1, .int a1), (2, .int x2), (3, .int x3), (4, .int x4)] [] h) (x2 : Int32) (x3 : Int32) (x4 : Int32) (h : Hp), g_X7_which_73 a0 a1 k22 x2 x3 x4 h = some (r0, h0) → BK p l e ({ frames := 4, cells := 0, slots := 0, locals := 102 }) s m args below meth c (MQ below (cQi X r0 h0) args s 0 0 (AD X)) X 6 73 [(0, .ref (X.2.2.2 a0)), (1, .int a1), (2, .int x2), (3, .int x3), (4, .int x4)] [] h := by
    intro k22 hk22 x2 x3 x4 h hf H locs ls hl hH
    unfold g_X7_which_73 at hf
    refine lv_iinc (v := (x4 + (-1 : Int32))) (lv' := [(4, .int ((x4 + (-1 : Int32)))), (0, .ref (X.2.2.2 a0)), (1, .int a1), (2, .int x2), (3, .int x3)]) hx hb dX7_which_73 hl (k := 4) rfl rfl (by decide) rfl (fun ls hl => ?_)
    refine lv_goto (tgt := 22) hx hb dX7_which_76 (by decide) ?_
    exact hk22 _ _ _ _ hf H locs ls (lv_sub hl [1, 2, 3, 4, 0] rfl) hH
  have B22 : ∀ (k22 : Int32 → Int32 → Int32 → Hp → Option (Int32 × Hp)) (hk22 : ∀ (x2 : Int32) (x3 : Int32) (x4 : Int32) (h : Hp), k22 x2 x3 x4 h = some (r0, h0) → BK p l e ({ frames := 4, cells := 0, slots := 0, locals := 102 }) s m args below meth c (MQ below (cQi X r0 h0) args s 0 0 (AD X)) X 6 22 [(0, .ref (X.2.2.2 a0)), (1, .int a1), (2, .int x2), (3, .int x3), (4, .int x4)] [] h) (x2 : Int32) (x3 : Int32) (x4 : Int32) (h : Hp), g_X7_which_22 a0 a1 k22 x2 x3 x4 h = some (r0, h0) → BK p l e ({ frames := 4, cells := 0, slots := 0, locals := 102 }) s m args below meth c (MQ below (cQi X r0 h0) args s 0 0 (AD X)) X 6 22 [(0, .ref (X.2.2.2 a0)), (1, .int a1), (2, .int x2), (3, .int x3), (4, .int x4)] [] h := by
    intro k22 hk22 x2 x3 x4 h hf H locs ls hl hH
    unfold g_X7_which_22 at hf
    refine lv_iload hx hb dX7_which_22 (lv_at hl 4 rfl) ?_
    refine lv_if_lt (tgt := 79) hx hb dX7_which_24 (by decide) (fun c1 => ?_) (fun c1 => ?_)
    · replace hf := ite_t c1 hf
      refine lv_iload_n hx hb dX7_which_79 rfl (lv_at hl 1 rfl) ?_
      refine lv_if_ne (tgt := 87) hx hb dX7_which_80 (by decide) (fun c2 => ?_) (fun c2 => ?_)
      · replace hf := ite_f c2 hf
        refine lv_iload_n hx hb dX7_which_87 rfl (lv_at hl 3 rfl) ?_
        exact wk_iret S hr hlk hK hN hH hf dX7_which_88
      · replace hf := ite_t c2 hf
        refine lv_iload_n hx hb dX7_which_83 rfl (lv_at hl 2 rfl) ?_
        refine lv_goto (tgt := 88) hx hb dX7_which_84 (by decide) ?_
        exact wk_iret S hr hlk hK hN hH hf dX7_which_88
    · replace hf := ite_f c1 hf
      refine lv_bipush (v := 100) hx hb dX7_which_27 (by decide) ?_
      refine lv_iload hx hb dX7_which_29 (lv_at hl 4 rfl) ?_
      refine lv_bipush (v := 25) hx hb dX7_which_31 (by decide) ?_
      refine lv_idiv hx hb dX7_which_33 (by decide) ?_
      refine lv_iconst (v := 1) hx hb dX7_which_34 (by decide) ?_
      refine lv_iadd hx hb dX7_which_35 ?_
      refine lv_imul hx hb dX7_which_36 ?_
      refine lv_bipush (v := 10) hx hb dX7_which_37 (by decide) ?_
      refine lv_iload hx hb dX7_which_39 (lv_at hl 4 rfl) ?_
      refine lv_iconst (v := 5) hx hb dX7_which_41 (by decide) ?_
      refine lv_idiv hx hb dX7_which_42 (by decide) ?_
      refine lv_iconst (v := 5) hx hb dX7_which_43 (by decide) ?_
      refine lv_irem hx hb dX7_which_44 (by decide) ?_
      refine lv_iconst (v := 1) hx hb dX7_which_45 (by decide) ?_
      refine lv_iadd hx hb dX7_which_46 ?_
      refine lv_imul hx hb dX7_which_47 ?_
      refine lv_iadd hx hb dX7_which_48 ?_
      refine lv_iload hx hb dX7_which_49 (lv_at hl 4 rfl) ?_
      refine lv_iconst (v := 5) hx hb dX7_which_51 (by decide) ?_
      refine lv_irem hx hb dX7_which_52 (by decide) ?_
      refine lv_iadd hx hb dX7_which_53 ?_
      refine lv_iconst (v := 1) hx hb dX7_which_54 (by decide) ?_
      refine lv_iadd hx hb dX7_which_55 ?_
      refine lv_istore (lv' := [(5, .int ((((((100 : Int32) * ((x4 / (25 : Int32)) + (1 : Int32))) + ((10 : Int32) * (((x4 / (5 : Int32)) - (x4 / (5 : Int32)) / (5 : Int32) * (5 : Int32)) + (1 : Int32)))) + (x4 - x4 / (5 : Int32) * (5 : Int32))) + (1 : Int32)))), (0, .ref (X.2.2.2 a0)), (1, .int a1), (2, .int x2), (3, .int x3), (4, .int x4)]) hx hb dX7_which_56 hl (by decide) rfl (fun ls hl => ?_)
      refine lv_aload_n hx hb dX7_which_58 rfl (lv_at hl 1 rfl) ?_
      refine lv_iload hx hb dX7_which_59 (lv_at hl 0 rfl) ?_
      obtain ⟨r5, h4, hq3, hf⟩ := bnd_ok hf
      refine wk_callVi (ci := 6) (b := a0) (As := [.int ((((((100 : Int32) * ((x4 / (25 : Int32)) + (1 : Int32))) + ((10 : Int32) * (((x4 / (5 : Int32)) - (x4 / (5 : Int32)) / (5 : Int32) * (5 : Int32)) + (1 : Int32)))) + (x4 - x4 / (5 : Int32) * (5 : Int32))) + (1 : Int32)))]) (rest := []) S hK hN hH t0 (by decide) rfl (C_X7_agrees l X hI t0 (((((100 : Int32) * ((x4 / (25 : Int32)) + (1 : Int32))) + ((10 : Int32) * (((x4 / (5 : Int32)) - (x4 / (5 : Int32)) / (5 : Int32) * (5 : Int32)) + (1 : Int32)))) + (x4 - x4 / (5 : Int32) * (5 : Int32))) + (1 : Int32)) _ _ _ hq3) (cwV 1 hts (gV wU_in m_954 m_956 m_33 m_41 m_957) rfl rfl rfl hdV_X7_agrees ⟨Nat.le_of_ble_eq_true rfl, Nat.le_of_ble_eq_true rfl⟩) hl.1 rfl rfl (Nat.le_of_ble_eq_true rfl) dX7_which_61 ⟨Nat.zero_le _, Nat.zero_le _⟩ (fun H locs hH => ?_)
      refine lv_if_eq (tgt := 73) hx hb dX7_which_64 (by decide) (fun c6 => ?_) (fun c6 => ?_)
      · replace hf := ite_t c6 hf
        exact B73 k22 hk22 _ _ _ _ hf H locs ls (lv_sub hl [1, 2, 3, 4, 5] rfl) hH
      · replace hf := ite_f c6 hf
        refine lv_iinc (v := (x2 + (1 : Int32))) (lv' := [(2, .int ((x2 + (1 : Int32)))), (5, .int ((((((100 : Int32) * ((x4 / (25 : Int32)) + (1 : Int32))) + ((10 : Int32) * (((x4 / (5 : Int32)) - (x4 / (5 : Int32)) / (5 : Int32) * (5 : Int32)) + (1 : Int32)))) + (x4 - x4 / (5 : Int32) * (5 : Int32))) + (1 : Int32)))), (0, .ref (X.2.2.2 a0)), (1, .int a1), (3, .int x3), (4, .int x4)]) hx hb dX7_which_67 hl (k := 3) rfl rfl (by decide) rfl (fun ls hl => ?_)
        refine lv_iload hx hb dX7_which_70 (lv_at hl 1 rfl) ?_
        refine lv_istore_n (lv' := [(3, .int ((((((100 : Int32) * ((x4 / (25 : Int32)) + (1 : Int32))) + ((10 : Int32) * (((x4 / (5 : Int32)) - (x4 / (5 : Int32)) / (5 : Int32) * (5 : Int32)) + (1 : Int32)))) + (x4 - x4 / (5 : Int32) * (5 : Int32))) + (1 : Int32)))), (2, .int ((x2 + (1 : Int32)))), (5, .int ((((((100 : Int32) * ((x4 / (25 : Int32)) + (1 : Int32))) + ((10 : Int32) * (((x4 / (5 : Int32)) - (x4 / (5 : Int32)) / (5 : Int32) * (5 : Int32)) + (1 : Int32)))) + (x4 - x4 / (5 : Int32) * (5 : Int32))) + (1 : Int32)))), (0, .ref (X.2.2.2 a0)), (1, .int a1), (4, .int x4)]) hx hb dX7_which_72 rfl hl (by decide) rfl (fun ls hl => ?_)
        exact B73 k22 hk22 _ _ _ _ hf H locs ls (lv_sub hl [3, 4, 1, 0, 5] rfl) hH
  have BL22 : ∀ (n : Nat) (x2 : Int32) (x3 : Int32) (x4 : Int32) (h : Hp), f_X7_which_22 a0 a1 n x2 x3 x4 h = some (r0, h0) → BK p l e ({ frames := 4, cells := 0, slots := 0, locals := 102 }) s m args below meth c (MQ below (cQi X r0 h0) args s 0 0 (AD X)) X 6 22 [(0, .ref (X.2.2.2 a0)), (1, .int a1), (2, .int x2), (3, .int x3), (4, .int x4)] [] h := by
    intro n
    induction n with
    | zero => intro x2 x3 x4 h hf; cases hf
    | succ n ih => intro x2 x3 x4 h hf; exact B22 _ ih _ _ _ _ hf
  intro H locs ls hl hH
  replace hl : lv_has ls 6 [(0, .ref (X.2.2.2 a0)), (1, .int a1)] := hl
  unfold f_X7_which at hf
  refine lv_iload_n hx hb dX7_which_0 rfl (lv_at hl 1 rfl) ?_
  refine lv_i2l hx hb dX7_which_1 rfl ?_
  refine lv_lconst (v := 0) hx hb dX7_which_2 (by decide) ?_
  refine lv_lconst (v := 1) hx hb dX7_which_3 (by decide) ?_
  obtain ⟨r9, h8, hq7, hf⟩ := bnd_ok hf
  refine wk_callSi (As := [.long ((a1).toInt64), .long ((0 : Int64)), .long ((1 : Int64))]) (rest := []) S hK hN hH (C_X7_in l X hI ((a1).toInt64) (0 : Int64) (1 : Int64) _ _ _ hq7) (va_cwS 3 hts (gS wU_in m_720 m_721 m_41 m_722) rfl rfl rfl hdS_X7_in ⟨Nat.le_of_ble_eq_true rfl, Nat.le_of_ble_eq_true rfl⟩) hl.1 rfl rfl (Nat.le_of_ble_eq_true rfl) dX7_which_4 ⟨Nat.zero_le _, Nat.zero_le _⟩ (fun H locs hH => ?_)
  refine lv_if_ne (tgt := 13) hx hb dX7_which_7 (by decide) (fun c10 => ?_) (fun c10 => ?_)
  · replace hf := ite_f c10 hf
    refine lv_iconst (v := 0) hx hb dX7_which_13 (by decide) ?_
    refine lv_istore_n (lv' := [(2, .int ((0 : Int32))), (0, .ref (X.2.2.2 a0)), (1, .int a1)]) hx hb dX7_which_14 rfl hl (by decide) rfl (fun ls hl => ?_)
    refine lv_bipush (v := (-9)) hx hb dX7_which_15 (by decide) ?_
    refine lv_istore_n (lv' := [(3, .int ((-9 : Int32))), (2, .int ((0 : Int32))), (0, .ref (X.2.2.2 a0)), (1, .int a1)]) hx hb dX7_which_17 rfl hl (by decide) rfl (fun ls hl => ?_)
    refine lv_bipush (v := 124) hx hb dX7_which_18 (by decide) ?_
    refine lv_istore (lv' := [(4, .int ((124 : Int32))), (3, .int ((-9 : Int32))), (2, .int ((0 : Int32))), (0, .ref (X.2.2.2 a0)), (1, .int a1)]) hx hb dX7_which_20 hl (by decide) rfl (fun ls hl => ?_)
    exact BL22 FU _ _ _ _ hf H locs ls (lv_sub hl [3, 4, 2, 1, 0] rfl) hH
  · replace hf := ite_t c10 hf
    refine lv_bipush (v := (-2)) hx hb dX7_which_10 (by decide) ?_
    exact wk_iret S hr hlk hK hN hH hf dX7_which_12
