set_option maxHeartbeats 4000000 in
set_option maxRecDepth 100000 in
theorem C_X7_take (l : Launch) (X : Cx) (hI : Inj X) {a0 : Nat} (t0 : tY a0 = 6) (a1 : Int32) (a2 : Int32) (a3 : Int32) (h : Hp) (r0 : Int32) (h0 : Hp) (hf : f_X7_take a0 a1 a2 a3 h = some (r0, h0)) : Mi l X yX7_take cX7_take 5 (some .boolean) 3 66 h [.ref (X.2.2.2 a0), .int a1, .int a2, .int a3] r0 h0 := by
  refine BD_of (own := RX7) hI rfl (by decide) (Nat.le_of_ble_eq_true rfl) ?_
  intro p e s m args below meth c S hr hlk hK hN
  obtain ⟨hx, hb, hml, hown, hts⟩ := id S
  have B39 : ∀ (z0 : Int32) (h : Hp), g_X7_take_39 a0 a1 a2 a3 z0 h = some (r0, h0) → BK p l e ({ frames := 3, cells := 0, slots := 0, locals := 66 }) s m args below meth c (MQ below (cQi X r0 h0) args s 0 0 (AD X)) X 5 39 [(0, .ref (X.2.2.2 a0)), (1, .int a1), (2, .int a2)] [.int z0] h := by
    intro z0 h hf H locs ls hl hH
    unfold g_X7_take_39 at hf
    refine lv_istore (lv' := [(4, .int z0), (0, .ref (X.2.2.2 a0)), (1, .int a1), (2, .int a2)]) hx hb dX7_take_39 hl (by decide) rfl (fun ls hl => ?_)
    refine lv_iload hx hb dX7_take_41 (lv_at hl 0 rfl) ?_
    refine lv_bipush (v := (-9)) hx hb dX7_take_43 (by decide) ?_
    refine lv_icmp_ne (tgt := 50) hx hb dX7_take_45 (by decide) (fun c1 => ?_) (fun c1 => ?_)
    · replace hf := ite_f c1 hf
      refine lv_iload_n hx hb dX7_take_50 rfl (lv_at hl 2 rfl) ?_
      refine lv_iconst (v := 1) hx hb dX7_take_51 (by decide) ?_
      refine lv_icmp_ne (tgt := 86) hx hb dX7_take_52 (by decide) (fun c2 => ?_) (fun c2 => ?_)
      · replace hf := ite_f c2 hf
        refine lv_iload_n hx hb dX7_take_86 rfl (lv_at hl 2 rfl) ?_
        refine lv_iconst (v := 2) hx hb dX7_take_87 (by decide) ?_
        refine lv_icmp_ne (tgt := 122) hx hb dX7_take_88 (by decide) (fun c3 => ?_) (fun c3 => ?_)
        · replace hf := ite_f c3 hf
          refine lv_aload_n hx hb dX7_take_122 rfl (lv_at hl 1 rfl) ?_
          refine wk_getr (ci := 6) (k := 16) S hK hH j_X7 t0 rfl hq_6_16 (hts _ (wU_in _ m_640)) dX7_take_123 ?_
          refine lv_iconst (v := 4) hx hb dX7_take_126 (by decide) ?_
          refine lv_aload_n hx hb dX7_take_127 rfl (lv_at hl 1 rfl) ?_
          refine wk_geti (ci := 6) (k := 19) S hK hH j_X7 t0 rfl hq_6_19 (hts _ (wU_in _ m_643)) dX7_take_128 ?_
          refine lv_iconst (v := 1) hx hb dX7_take_131 (by decide) ?_
          refine lv_isub hx hb dX7_take_132 ?_
          refine lv_imul hx hb dX7_take_133 ?_
          refine lv_iload_n hx hb dX7_take_134 rfl (lv_at hl 3 rfl) ?_
          refine lv_iadd hx hb dX7_take_135 ?_
          refine lv_iload hx hb dX7_take_136 (lv_at hl 0 rfl) ?_
          obtain ⟨o4, hf⟩ := ite_ok hf
          refine wk_iast S hK hH (tr_6_16 t0) o4 dX7_take_138 (fun H locs hH => ?_)
          refine lv_iconst (v := 1) hx hb dX7_take_139 (by decide) ?_
          exact wk_zret S hr hlk hK hN hH rfl hf dX7_take_140
        · replace hf := ite_t c3 hf
          refine lv_aload_n hx hb dX7_take_91 rfl (lv_at hl 1 rfl) ?_
          refine wk_getr (ci := 6) (k := 15) S hK hH j_X7 t0 rfl hq_6_15 (hts _ (wU_in _ m_639)) dX7_take_92 ?_
          refine lv_aload_n hx hb dX7_take_95 rfl (lv_at hl 1 rfl) ?_
          refine wk_geti (ci := 6) (k := 18) S hK hH j_X7 t0 rfl hq_6_18 (hts _ (wU_in _ m_642)) dX7_take_96 ?_
          refine lv_iconst (v := 1) hx hb dX7_take_99 (by decide) ?_
          refine lv_isub hx hb dX7_take_100 ?_
          refine lv_bipush (v := 10) hx hb dX7_take_101 (by decide) ?_
          refine lv_aload_n hx hb dX7_take_103 rfl (lv_at hl 1 rfl) ?_
          refine wk_getr (ci := 6) (k := 15) S hK hH j_X7 t0 rfl hq_6_15 (hts _ (wU_in _ m_639)) dX7_take_104 ?_
          refine lv_aload_n hx hb dX7_take_107 rfl (lv_at hl 1 rfl) ?_
          refine wk_geti (ci := 6) (k := 18) S hK hH j_X7 t0 rfl hq_6_18 (hts _ (wU_in _ m_642)) dX7_take_108 ?_
          refine lv_iconst (v := 1) hx hb dX7_take_111 (by decide) ?_
          refine lv_isub hx hb dX7_take_112 ?_
          obtain ⟨o5, hf⟩ := ite_ok hf
          refine wk_iald S hK hH (tr_6_15 t0) o5 dX7_take_113 ?_
          refine lv_imul hx hb dX7_take_114 ?_
          refine lv_iload hx hb dX7_take_115 (lv_at hl 0 rfl) ?_
          refine lv_iadd hx hb dX7_take_117 ?_
          obtain ⟨o6, hf⟩ := ite_ok hf
          refine wk_iast S hK hH (tr_6_15 t0) o6 dX7_take_118 (fun H locs hH => ?_)
          refine lv_goto (tgt := 139) hx hb dX7_take_119 (by decide) ?_
          refine lv_iconst (v := 1) hx hb dX7_take_139 (by decide) ?_
          exact wk_zret S hr hlk hK hN hH rfl hf dX7_take_140
      · replace hf := ite_t c2 hf
        refine lv_aload_n hx hb dX7_take_55 rfl (lv_at hl 1 rfl) ?_
        refine wk_getr (ci := 6) (k := 14) S hK hH j_X7 t0 rfl hq_6_14 (hts _ (wU_in _ m_638)) dX7_take_56 ?_
        refine lv_aload_n hx hb dX7_take_59 rfl (lv_at hl 1 rfl) ?_
        refine wk_geti (ci := 6) (k := 17) S hK hH j_X7 t0 rfl hq_6_17 (hts _ (wU_in _ m_641)) dX7_take_60 ?_
        refine lv_iconst (v := 1) hx hb dX7_take_63 (by decide) ?_
        refine lv_isub hx hb dX7_take_64 ?_
        refine lv_bipush (v := 10) hx hb dX7_take_65 (by decide) ?_
        refine lv_aload_n hx hb dX7_take_67 rfl (lv_at hl 1 rfl) ?_
        refine wk_getr (ci := 6) (k := 14) S hK hH j_X7 t0 rfl hq_6_14 (hts _ (wU_in _ m_638)) dX7_take_68 ?_
        refine lv_aload_n hx hb dX7_take_71 rfl (lv_at hl 1 rfl) ?_
        refine wk_geti (ci := 6) (k := 17) S hK hH j_X7 t0 rfl hq_6_17 (hts _ (wU_in _ m_641)) dX7_take_72 ?_
        refine lv_iconst (v := 1) hx hb dX7_take_75 (by decide) ?_
        refine lv_isub hx hb dX7_take_76 ?_
        obtain ⟨o7, hf⟩ := ite_ok hf
        refine wk_iald S hK hH (tr_6_14 t0) o7 dX7_take_77 ?_
        refine lv_imul hx hb dX7_take_78 ?_
        refine lv_iload hx hb dX7_take_79 (lv_at hl 0 rfl) ?_
        refine lv_iadd hx hb dX7_take_81 ?_
        obtain ⟨o8, hf⟩ := ite_ok hf
        refine wk_iast S hK hH (tr_6_14 t0) o8 dX7_take_82 (fun H locs hH => ?_)
        refine lv_goto (tgt := 139) hx hb dX7_take_83 (by decide) ?_
        refine lv_iconst (v := 1) hx hb dX7_take_139 (by decide) ?_
        exact wk_zret S hr hlk hK hN hH rfl hf dX7_take_140
    · replace hf := ite_t c1 hf
      refine lv_iconst (v := 0) hx hb dX7_take_48 (by decide) ?_
      exact wk_zret S hr hlk hK hN hH rfl hf dX7_take_49
  intro H locs ls hl hH
  replace hl : lv_has ls 5 [(0, .ref (X.2.2.2 a0)), (1, .int a1), (2, .int a2), (3, .int a3)] := hl
  unfold f_X7_take at hf
  refine lv_iload_n hx hb dX7_take_0 rfl (lv_at hl 2 rfl) ?_
  refine lv_iload_n hx hb dX7_take_1 rfl (lv_at hl 1 rfl) ?_
  obtain ⟨r11, h10, hq9, hf⟩ := bnd_ok hf
  refine wk_callSi (As := [.int a1]) (rest := [.int a2]) S hK hN hH (C_X7_mostOf l X hI a1 _ _ _ hq9) (va_cwS 1 hts (gS wU_in m_750 m_751 m_41 m_752) rfl rfl rfl hdS_X7_mostOf ⟨Nat.le_of_ble_eq_true rfl, Nat.le_of_ble_eq_true rfl⟩) hl.1 rfl rfl (Nat.le_of_ble_eq_true rfl) dX7_take_2 ⟨Nat.zero_le _, Nat.zero_le _⟩ (fun H locs hH => ?_)
  refine lv_icmp_lt (tgt := 10) hx hb dX7_take_5 (by decide) (fun c12 => ?_) (fun c12 => ?_)
  · replace hf := ite_t c12 hf
    refine lv_iload_n hx hb dX7_take_10 rfl (lv_at hl 1 rfl) ?_
    refine lv_iconst (v := 3) hx hb dX7_take_11 (by decide) ?_
    refine lv_icmp_ne (tgt := 23) hx hb dX7_take_12 (by decide) (fun c13 => ?_) (fun c13 => ?_)
    · replace hf := ite_f c13 hf
      refine lv_iload_n hx hb dX7_take_23 rfl (lv_at hl 3 rfl) ?_
      obtain ⟨r16, h15, hq14, hf⟩ := bnd_ok hf
      refine wk_callSi (As := [.int a3]) (rest := []) S hK hN hH (C_X7_isLetter l X hI a3 _ _ _ hq14) (va_cwS 1 hts (gS wU_in m_756 m_757 m_41 m_758) rfl rfl rfl hdS_X7_isLetter ⟨Nat.le_of_ble_eq_true rfl, Nat.le_of_ble_eq_true rfl⟩) hl.1 rfl rfl (Nat.le_of_ble_eq_true rfl) dX7_take_24 ⟨Nat.zero_le _, Nat.zero_le _⟩ (fun H locs hH => ?_)
      refine lv_if_eq (tgt := 37) hx hb dX7_take_27 (by decide) (fun c17 => ?_) (fun c17 => ?_)
      · replace hf := ite_t c17 hf
        refine lv_bipush (v := (-9)) hx hb dX7_take_37 (by decide) ?_
        exact B39 _ _ hf H locs ls (lv_sub hl [0, 1, 2] rfl) hH
      · replace hf := ite_f c17 hf
        refine lv_iload_n hx hb dX7_take_30 rfl (lv_at hl 3 rfl) ?_
        refine lv_bipush (v := 96) hx hb dX7_take_31 (by decide) ?_
        refine lv_isub hx hb dX7_take_33 ?_
        refine lv_goto (tgt := 39) hx hb dX7_take_34 (by decide) ?_
        exact B39 _ _ hf H locs ls (lv_sub hl [0, 1, 2] rfl) hH
    · replace hf := ite_t c13 hf
      refine lv_iload_n hx hb dX7_take_15 rfl (lv_at hl 3 rfl) ?_
      refine lv_iload_n hx hb dX7_take_16 rfl (lv_at hl 2 rfl) ?_
      obtain ⟨r20, h19, hq18, hf⟩ := bnd_ok hf
      refine wk_callSi (As := [.int a3, .int a2]) (rest := []) S hK hN hH (C_X7_signOf l X hI a3 a2 _ _ _ hq18) (va_cwS 2 hts (gS wU_in m_753 m_754 m_41 m_755) rfl rfl rfl hdS_X7_signOf ⟨Nat.le_of_ble_eq_true rfl, Nat.le_of_ble_eq_true rfl⟩) hl.1 rfl rfl (Nat.le_of_ble_eq_true rfl) dX7_take_17 ⟨Nat.zero_le _, Nat.zero_le _⟩ (fun H locs hH => ?_)
      refine lv_goto (tgt := 39) hx hb dX7_take_20 (by decide) ?_
      exact B39 _ _ hf H locs ls (lv_sub hl [0, 1, 2] rfl) hH
  · replace hf := ite_f c12 hf
    refine lv_iconst (v := 0) hx hb dX7_take_8 (by decide) ?_
    exact wk_zret S hr hlk hK hN hH rfl hf dX7_take_9
set_option maxHeartbeats 4000000 in
set_option maxRecDepth 100000 in
theorem C_X7_readText (l : Launch) (X : Cx) (hI : Inj X) {a0 : Nat} (t0 : tY a0 = 6) (h : Hp) (r0 : Int32) (h0 : Hp) (hf : f_X7_readText a0 h = some (r0, h0)) : Mi l X yX7_readText cX7_readText 7 (some .int) 4 90 h [.ref (X.2.2.2 a0)] r0 h0 := by
  refine BD_of (own := RX7) hI rfl (by decide) (Nat.le_of_ble_eq_true rfl) ?_
  intro p e s m args below meth c S hr hlk hK hN
  obtain ⟨hx, hb, hml, hown, hts⟩ := id S
  have B140 : ∀ (x3 : Int32) (z0 : Int32) (h : Hp), g_X7_readText_140 a0 x3 z0 h = some (r0, h0) → BK p l e ({ frames := 4, cells := 0, slots := 0, locals := 90 }) s m args below meth c (MQ below (cQi X r0 h0) args s 0 0 (AD X)) X 7 140 [(0, .ref (X.2.2.2 a0)), (3, .int x3)] [.int z0] h := by
    intro x3 z0 h hf H locs ls hl hH
    unfold g_X7_readText_140 at hf
    refine lv_istore (lv' := [(6, .int z0), (0, .ref (X.2.2.2 a0)), (3, .int x3)]) hx hb dX7_readText_140 hl (by decide) rfl (fun ls hl => ?_)
    refine lv_aload_n hx hb dX7_readText_142 rfl (lv_at hl 1 rfl) ?_
    refine lv_iload hx hb dX7_readText_143 (lv_at hl 0 rfl) ?_
    refine lv_if_eq (tgt := 157) hx hb dX7_readText_145 (by decide) (fun c1 => ?_) (fun c1 => ?_)
    · replace hf := ite_t c1 hf
      refine lv_aload_n hx hb dX7_readText_157 rfl (lv_at hl 1 rfl) ?_
      refine wk_geti (ci := 6) (k := 20) S hK hH j_X7 t0 rfl hq_6_20 (hts _ (wU_in _ m_644)) dX7_readText_158 ?_
      refine wk_puti (ci := 6) (k := 21) S hK hH j_X7 tyX7 tyX7_ok nmX7 t0 rfl hq_6_21 rfl hd_6_21 (hts _ (wU_in _ m_645)) dX7_readText_161 (fun H locs hH => ?_)
      refine lv_iload_n hx hb dX7_readText_164 rfl (lv_at hl 2 rfl) ?_
      exact wk_iret S hr hlk hK hN hH hf dX7_readText_165
    · replace hf := ite_f c1 hf
      refine lv_aload_n hx hb dX7_readText_148 rfl (lv_at hl 1 rfl) ?_
      refine wk_geti (ci := 6) (k := 20) S hK hH j_X7 t0 rfl hq_6_20 (hts _ (wU_in _ m_644)) dX7_readText_149 ?_
      refine lv_iconst (v := 1) hx hb dX7_readText_152 (by decide) ?_
      refine lv_isub hx hb dX7_readText_153 ?_
      refine lv_goto (tgt := 161) hx hb dX7_readText_154 (by decide) ?_
      refine wk_puti (ci := 6) (k := 21) S hK hH j_X7 tyX7 tyX7_ok nmX7 t0 rfl hq_6_21 rfl hd_6_21 (hts _ (wU_in _ m_645)) dX7_readText_161 (fun H locs hH => ?_)
      refine lv_iload_n hx hb dX7_readText_164 rfl (lv_at hl 2 rfl) ?_
      exact wk_iret S hr hlk hK hN hH hf dX7_readText_165
  have B135 : ∀ (x3 : Int32) (h : Hp), g_X7_readText_135 a0 x3 h = some (r0, h0) → BK p l e ({ frames := 4, cells := 0, slots := 0, locals := 90 }) s m args below meth c (MQ below (cQi X r0 h0) args s 0 0 (AD X)) X 7 135 [(0, .ref (X.2.2.2 a0)), (3, .int x3)] [] h := by
    intro x3 h hf H locs ls hl hH
    unfold g_X7_readText_135 at hf
    refine lv_iconst (v := 1) hx hb dX7_readText_135 (by decide) ?_
    refine lv_goto (tgt := 140) hx hb dX7_readText_136 (by decide) ?_
    exact B140 _ _ _ hf H locs ls (lv_sub hl [0, 1] rfl) hH
  have B139 : ∀ (x3 : Int32) (h : Hp), g_X7_readText_139 a0 x3 h = some (r0, h0) → BK p l e ({ frames := 4, cells := 0, slots := 0, locals := 90 }) s m args below meth c (MQ below (cQi X r0 h0) args s 0 0 (AD X)) X 7 139 [(0, .ref (X.2.2.2 a0)), (3, .int x3)] [] h := by
    intro x3 h hf H locs ls hl hH
    unfold g_X7_readText_139 at hf
    refine lv_iconst (v := 0) hx hb dX7_readText_139 (by decide) ?_
    exact B140 _ _ _ hf H locs ls (lv_sub hl [0, 1] rfl) hH
  have B123 : ∀ (x3 : Int32) (h : Hp), g_X7_readText_123 a0 x3 h = some (r0, h0) → BK p l e ({ frames := 4, cells := 0, slots := 0, locals := 90 }) s m args below meth c (MQ below (cQi X r0 h0) args s 0 0 (AD X)) X 7 123 [(0, .ref (X.2.2.2 a0)), (3, .int x3)] [] h := by
    intro x3 h hf H locs ls hl hH
    unfold g_X7_readText_123 at hf
    refine lv_aload_n hx hb dX7_readText_123 rfl (lv_at hl 0 rfl) ?_
    refine wk_getr (ci := 6) (k := 0) S hK hH j_X7 t0 rfl hq_6_0 (hts _ (wU_in _ m_624)) dX7_readText_124 ?_
    refine lv_iload_n hx hb dX7_readText_127 rfl (lv_at hl 1 rfl) ?_
    obtain ⟨o2, hf⟩ := ite_ok hf
    refine wk_iald S hK hH (tr_6_0 t0) o2 dX7_readText_128 ?_
    obtain ⟨r5, h4, hq3, hf⟩ := bnd_ok hf
    refine wk_callSi (As := [.int ((h.1 (rF a0 0) (x3).toNatClampNeg))]) (rest := []) S hK hN hH (C_X7_isLetter l X hI (h.1 (rF a0 0) (x3).toNatClampNeg) _ _ _ hq3) (va_cwS 1 hts (gS wU_in m_756 m_757 m_41 m_758) rfl rfl rfl hdS_X7_isLetter ⟨Nat.le_of_ble_eq_true rfl, Nat.le_of_ble_eq_true rfl⟩) hl.1 rfl rfl (Nat.le_of_ble_eq_true rfl) dX7_readText_129 ⟨Nat.zero_le _, Nat.zero_le _⟩ (fun H locs hH => ?_)
    refine lv_if_eq (tgt := 139) hx hb dX7_readText_132 (by decide) (fun c6 => ?_) (fun c6 => ?_)
    · replace hf := ite_t c6 hf
      exact B139 _ _ hf H locs ls (lv_sub hl [0, 1] rfl) hH
    · replace hf := ite_f c6 hf
      exact B135 _ _ hf H locs ls (lv_sub hl [0, 1] rfl) hH
  have B166 : ∀ (k32 : Int32 → Int32 → Int32 → Hp → Option (Int32 × Hp)) (hk32 : ∀ (x1 : Int32) (x2 : Int32) (x3 : Int32) (h : Hp), k32 x1 x2 x3 h = some (r0, h0) → BK p l e ({ frames := 4, cells := 0, slots := 0, locals := 90 }) s m args below meth c (MQ below (cQi X r0 h0) args s 0 0 (AD X)) X 7 32 [(0, .ref (X.2.2.2 a0)), (1, .int x1), (2, .int x2), (3, .int x3)] [] h) (x1 : Int32) (x2 : Int32) (x3 : Int32) (h : Hp), g_X7_readText_166 a0 k32 x1 x2 x3 h = some (r0, h0) → BK p l e ({ frames := 4, cells := 0, slots := 0, locals := 90 }) s m args below meth c (MQ below (cQi X r0 h0) args s 0 0 (AD X)) X 7 166 [(0, .ref (X.2.2.2 a0)), (1, .int x1), (2, .int x2), (3, .int x3)] [] h := by
    intro k32 hk32 x1 x2 x3 h hf H locs ls hl hH
    unfold g_X7_readText_166 at hf
    refine lv_iinc (v := (x3 + (1 : Int32))) (lv' := [(3, .int ((x3 + (1 : Int32)))), (0, .ref (X.2.2.2 a0)), (1, .int x1), (2, .int x2)]) hx hb dX7_readText_166 hl (k := 3) rfl rfl (by decide) rfl (fun ls hl => ?_)
    refine lv_goto (tgt := 32) hx hb dX7_readText_169 (by decide) ?_
    exact hk32 _ _ _ _ hf H locs ls (lv_sub hl [1, 2, 3, 0] rfl) hH
  have B66 : ∀ (k32 : Int32 → Int32 → Int32 → Hp → Option (Int32 × Hp)) (hk32 : ∀ (x1 : Int32) (x2 : Int32) (x3 : Int32) (h : Hp), k32 x1 x2 x3 h = some (r0, h0) → BK p l e ({ frames := 4, cells := 0, slots := 0, locals := 90 }) s m args below meth c (MQ below (cQi X r0 h0) args s 0 0 (AD X)) X 7 32 [(0, .ref (X.2.2.2 a0)), (1, .int x1), (2, .int x2), (3, .int x3)] [] h) (x1 : Int32) (x2 : Int32) (x3 : Int32) (x4 : Int32) (z0 : Int32) (h : Hp), g_X7_readText_66 a0 k32 x1 x2 x3 x4 z0 h = some (r0, h0) → BK p l e ({ frames := 4, cells := 0, slots := 0, locals := 90 }) s m args below meth c (MQ below (cQi X r0 h0) args s 0 0 (AD X)) X 7 66 [(0, .ref (X.2.2.2 a0)), (1, .int x1), (2, .int x2), (3, .int x3), (4, .int x4)] [.int z0] h := by
    intro k32 hk32 x1 x2 x3 x4 z0 h hf H locs ls hl hH
    unfold g_X7_readText_66 at hf
    refine lv_istore (lv' := [(5, .int z0), (0, .ref (X.2.2.2 a0)), (1, .int x1), (2, .int x2), (3, .int x3), (4, .int x4)]) hx hb dX7_readText_66 hl (by decide) rfl (fun ls hl => ?_)
    refine lv_iload hx hb dX7_readText_68 (lv_at hl 0 rfl) ?_
    refine lv_if_le (tgt := 87) hx hb dX7_readText_70 (by decide) (fun c7 => ?_) (fun c7 => ?_)
    · replace hf := ite_t c7 hf
      refine lv_aload_n hx hb dX7_readText_87 rfl (lv_at hl 1 rfl) ?_
      refine lv_iload_n hx hb dX7_readText_88 rfl (lv_at hl 2 rfl) ?_
      refine lv_iload_n hx hb dX7_readText_89 rfl (lv_at hl 3 rfl) ?_
      refine lv_aload_n hx hb dX7_readText_90 rfl (lv_at hl 1 rfl) ?_
      refine wk_getr (ci := 6) (k := 0) S hK hH j_X7 t0 rfl hq_6_0 (hts _ (wU_in _ m_624)) dX7_readText_91 ?_
      refine lv_iload_n hx hb dX7_readText_94 rfl (lv_at hl 4 rfl) ?_
      obtain ⟨o8, hf⟩ := ite_ok hf
      refine wk_iald S hK hH (tr_6_0 t0) o8 dX7_readText_95 ?_
      obtain ⟨r11, h10, hq9, hf⟩ := bnd_ok hf
      refine wk_callVi (ci := 6) (b := a0) (As := [.int x1, .int x2, .int ((h.1 (rF a0 0) (x3).toNatClampNeg))]) (rest := []) S hK hN hH t0 (by decide) rfl (C_X7_take l X hI t0 x1 x2 (h.1 (rF a0 0) (x3).toNatClampNeg) _ _ _ hq9) (cwV 3 hts (gV wU_in m_746 m_748 m_16 m_41 m_749) rfl rfl rfl hdV_X7_take ⟨Nat.le_of_ble_eq_true rfl, Nat.le_of_ble_eq_true rfl⟩) hl.1 rfl rfl (Nat.le_of_ble_eq_true rfl) dX7_readText_96 ⟨Nat.zero_le _, Nat.zero_le _⟩ (fun H locs hH => ?_)
      refine lv_if_eq (tgt := 108) hx hb dX7_readText_99 (by decide) (fun c12 => ?_) (fun c12 => ?_)
      · replace hf := ite_t c12 hf
        refine lv_iload hx hb dX7_readText_108 (lv_at hl 5 rfl) ?_
        refine lv_if_eq (tgt := 135) hx hb dX7_readText_110 (by decide) (fun c13 => ?_) (fun c13 => ?_)
        · replace hf := ite_t c13 hf
          exact B135 _ _ hf H locs ls (lv_sub hl [1, 4] rfl) hH
        · replace hf := ite_f c13 hf
          refine lv_iload_n hx hb dX7_readText_113 rfl (lv_at hl 2 rfl) ?_
          refine lv_iconst (v := 1) hx hb dX7_readText_114 (by decide) ?_
          refine lv_icmp_eq (tgt := 123) hx hb dX7_readText_115 (by decide) (fun c14 => ?_) (fun c14 => ?_)
          · replace hf := ite_t c14 hf
            exact B123 _ _ hf H locs ls (lv_sub hl [1, 4] rfl) hH
          · replace hf := ite_f c14 hf
            refine lv_iload_n hx hb dX7_readText_118 rfl (lv_at hl 2 rfl) ?_
            refine lv_iconst (v := 2) hx hb dX7_readText_119 (by decide) ?_
            refine lv_icmp_ne (tgt := 139) hx hb dX7_readText_120 (by decide) (fun c15 => ?_) (fun c15 => ?_)
            · replace hf := ite_f c15 hf
              exact B139 _ _ hf H locs ls (lv_sub hl [1, 4] rfl) hH
            · replace hf := ite_t c15 hf
              exact B123 _ _ hf H locs ls (lv_sub hl [1, 4] rfl) hH
      · replace hf := ite_f c12 hf
        refine lv_iinc (v := (x2 + (1 : Int32))) (lv' := [(2, .int ((x2 + (1 : Int32)))), (5, .int z0), (0, .ref (X.2.2.2 a0)), (1, .int x1), (3, .int x3), (4, .int x4)]) hx hb dX7_readText_102 hl (k := 3) rfl rfl (by decide) rfl (fun ls hl => ?_)
        refine lv_goto (tgt := 166) hx hb dX7_readText_105 (by decide) ?_
        exact B166 k32 hk32 _ _ _ _ hf H locs ls (lv_sub hl [2, 3, 0, 4] rfl) hH
    · replace hf := ite_f c7 hf
      refine lv_aload_n hx hb dX7_readText_73 rfl (lv_at hl 1 rfl) ?_
      refine lv_iload hx hb dX7_readText_74 (lv_at hl 0 rfl) ?_
      obtain ⟨h17, hq16, hf⟩ := bind_ok hf
      refine wk_callVv (ci := 6) (b := a0) (As := [.int z0]) (rest := []) S hK hN hH t0 (by decide) rfl (C_X7_begin l X hI t0 z0 _ _ hq16) (cwV 1 hts (gV wU_in m_742 m_744 m_15 m_41 m_745) rfl rfl rfl hdV_X7_begin ⟨Nat.le_of_ble_eq_true rfl, Nat.le_of_ble_eq_true rfl⟩) hl.1 rfl rfl (Nat.le_of_ble_eq_true rfl) dX7_readText_76 ⟨Nat.zero_le _, Nat.zero_le _⟩ (fun H locs hH => ?_)
      refine lv_iload hx hb dX7_readText_79 (lv_at hl 0 rfl) ?_
      refine lv_istore_n (lv' := [(1, .int z0), (5, .int z0), (0, .ref (X.2.2.2 a0)), (2, .int x2), (3, .int x3), (4, .int x4)]) hx hb dX7_readText_81 rfl hl (by decide) rfl (fun ls hl => ?_)
      refine lv_iconst (v := 0) hx hb dX7_readText_82 (by decide) ?_
      refine lv_istore_n (lv' := [(2, .int ((0 : Int32))), (1, .int z0), (5, .int z0), (0, .ref (X.2.2.2 a0)), (3, .int x3), (4, .int x4)]) hx hb dX7_readText_83 rfl hl (by decide) rfl (fun ls hl => ?_)
      refine lv_goto (tgt := 166) hx hb dX7_readText_84 (by decide) ?_
      exact B166 k32 hk32 _ _ _ _ hf H locs ls (lv_sub hl [3, 1, 0, 4] rfl) hH
  have B32 : ∀ (k32 : Int32 → Int32 → Int32 → Hp → Option (Int32 × Hp)) (hk32 : ∀ (x1 : Int32) (x2 : Int32) (x3 : Int32) (h : Hp), k32 x1 x2 x3 h = some (r0, h0) → BK p l e ({ frames := 4, cells := 0, slots := 0, locals := 90 }) s m args below meth c (MQ below (cQi X r0 h0) args s 0 0 (AD X)) X 7 32 [(0, .ref (X.2.2.2 a0)), (1, .int x1), (2, .int x2), (3, .int x3)] [] h) (x1 : Int32) (x2 : Int32) (x3 : Int32) (h : Hp), g_X7_readText_32 a0 k32 x1 x2 x3 h = some (r0, h0) → BK p l e ({ frames := 4, cells := 0, slots := 0, locals := 90 }) s m args below meth c (MQ below (cQi X r0 h0) args s 0 0 (AD X)) X 7 32 [(0, .ref (X.2.2.2 a0)), (1, .int x1), (2, .int x2), (3, .int x3)] [] h := by
    intro k32 hk32 x1 x2 x3 h hf H locs ls hl hH
    unfold g_X7_readText_32 at hf
    refine lv_iload_n hx hb dX7_readText_32 rfl (lv_at hl 3 rfl) ?_
    refine lv_aload_n hx hb dX7_readText_33 rfl (lv_at hl 0 rfl) ?_
    refine wk_geti (ci := 6) (k := 1) S hK hH j_X7 t0 rfl hq_6_1 (hts _ (wU_in _ m_625)) dX7_readText_34 ?_
    refine lv_icmp_ge (tgt := 172) hx hb dX7_readText_37 (by decide) (fun c19 => ?_) (fun c19 => ?_)
    · replace hf := ite_t c19 hf
      refine lv_iload_n hx hb dX7_readText_172 rfl (lv_at hl 1 rfl) ?_
      refine lv_iload_n hx hb dX7_readText_173 rfl (lv_at hl 2 rfl) ?_
      obtain ⟨r22, h21, hq20, hf⟩ := bnd_ok hf
      refine wk_callSi (As := [.int x1, .int x2]) (rest := []) S hK hN hH (C_X7_mayEnd l X hI x1 x2 _ _ _ hq20) (va_cwS 2 hts (gS wU_in m_735 m_736 m_41 m_737) rfl rfl rfl hdS_X7_mayEnd ⟨Nat.le_of_ble_eq_true rfl, Nat.le_of_ble_eq_true rfl⟩) hl.1 rfl rfl (Nat.le_of_ble_eq_true rfl) dX7_readText_174 ⟨Nat.zero_le _, Nat.zero_le _⟩ (fun H locs hH => ?_)
      refine lv_if_eq (tgt := 183) hx hb dX7_readText_177 (by decide) (fun c23 => ?_) (fun c23 => ?_)
      · replace hf := ite_t c23 hf
        refine lv_aload_n hx hb dX7_readText_183 rfl (lv_at hl 0 rfl) ?_
        refine lv_aload_n hx hb dX7_readText_184 rfl (lv_at hl 0 rfl) ?_
        refine wk_geti (ci := 6) (k := 20) S hK hH j_X7 t0 rfl hq_6_20 (hts _ (wU_in _ m_644)) dX7_readText_185 ?_
        refine lv_iconst (v := 1) hx hb dX7_readText_188 (by decide) ?_
        refine lv_isub hx hb dX7_readText_189 ?_
        refine wk_puti (ci := 6) (k := 21) S hK hH j_X7 tyX7 tyX7_ok nmX7 t0 rfl hq_6_21 rfl hd_6_21 (hts _ (wU_in _ m_645)) dX7_readText_190 (fun H locs hH => ?_)
        refine lv_aload_n hx hb dX7_readText_193 rfl (lv_at hl 0 rfl) ?_
        refine wk_geti (ci := 6) (k := 1) S hK hH j_X7 t0 rfl hq_6_1 (hts _ (wU_in _ m_625)) dX7_readText_194 ?_
        exact wk_iret S hr hlk hK hN hH hf dX7_readText_197
      · replace hf := ite_f c23 hf
        refine lv_bipush (v := (-9)) hx hb dX7_readText_180 (by decide) ?_
        exact wk_iret S hr hlk hK hN hH hf dX7_readText_182
    · replace hf := ite_f c19 hf
      refine lv_iload_n hx hb dX7_readText_40 rfl (lv_at hl 1 rfl) ?_
      refine lv_iload_n hx hb dX7_readText_41 rfl (lv_at hl 2 rfl) ?_
      obtain ⟨r26, h25, hq24, hf⟩ := bnd_ok hf
      refine wk_callSi (As := [.int x1, .int x2]) (rest := []) S hK hN hH (C_X7_mayEnd l X hI x1 x2 _ _ _ hq24) (va_cwS 2 hts (gS wU_in m_735 m_736 m_41 m_737) rfl rfl rfl hdS_X7_mayEnd ⟨Nat.le_of_ble_eq_true rfl, Nat.le_of_ble_eq_true rfl⟩) hl.1 rfl rfl (Nat.le_of_ble_eq_true rfl) dX7_readText_42 ⟨Nat.zero_le _, Nat.zero_le _⟩ (fun H locs hH => ?_)
      refine lv_istore (lv' := [(4, .int r26), (0, .ref (X.2.2.2 a0)), (1, .int x1), (2, .int x2), (3, .int x3)]) hx hb dX7_readText_45 hl (by decide) rfl (fun ls hl => ?_)
      refine lv_iload hx hb dX7_readText_47 (lv_at hl 0 rfl) ?_
      refine lv_if_eq (tgt := 65) hx hb dX7_readText_49 (by decide) (fun c27 => ?_) (fun c27 => ?_)
      · replace hf := ite_t c27 hf
        refine lv_iconst (v := 0) hx hb dX7_readText_65 (by decide) ?_
        exact B66 k32 hk32 _ _ _ _ _ _ hf H locs ls (lv_sub hl [1, 2, 3, 4, 0] rfl) hH
      · replace hf := ite_f c27 hf
        refine lv_aload_n hx hb dX7_readText_52 rfl (lv_at hl 1 rfl) ?_
        refine lv_aload_n hx hb dX7_readText_53 rfl (lv_at hl 1 rfl) ?_
        refine wk_getr (ci := 6) (k := 0) S hK hH j_X7 t0 rfl hq_6_0 (hts _ (wU_in _ m_624)) dX7_readText_54 ?_
        refine lv_iload_n hx hb dX7_readText_57 rfl (lv_at hl 4 rfl) ?_
        obtain ⟨o28, hf⟩ := ite_ok hf
        refine wk_iald S hK hH (tr_6_0 t0) o28 dX7_readText_58 ?_
        obtain ⟨r31, h30, hq29, hf⟩ := bnd_ok hf
        refine wk_callVi (ci := 6) (b := a0) (As := [.int ((h25.1 (rF a0 0) (x3).toNatClampNeg))]) (rest := []) S hK hN hH t0 (by decide) rfl (C_X7_begun l X hI t0 (h25.1 (rF a0 0) (x3).toNatClampNeg) _ _ _ hq29) (cwV 1 hts (gV wU_in m_738 m_740 m_14 m_41 m_741) rfl rfl rfl hdV_X7_begun ⟨Nat.le_of_ble_eq_true rfl, Nat.le_of_ble_eq_true rfl⟩) hl.1 rfl rfl (Nat.le_of_ble_eq_true rfl) dX7_readText_59 ⟨Nat.zero_le _, Nat.zero_le _⟩ (fun H locs hH => ?_)
        refine lv_goto (tgt := 66) hx hb dX7_readText_62 (by decide) ?_
        exact B66 k32 hk32 _ _ _ _ _ _ hf H locs ls (lv_sub hl [1, 2, 3, 4, 0] rfl) hH
  have BL32 : ∀ (n : Nat) (x1 : Int32) (x2 : Int32) (x3 : Int32) (h : Hp), f_X7_readText_32 a0 n x1 x2 x3 h = some (r0, h0) → BK p l e ({ frames := 4, cells := 0, slots := 0, locals := 90 }) s m args below meth c (MQ below (cQi X r0 h0) args s 0 0 (AD X)) X 7 32 [(0, .ref (X.2.2.2 a0)), (1, .int x1), (2, .int x2), (3, .int x3)] [] h := by
    intro n
    induction n with
    | zero => intro x1 x2 x3 h hf; cases hf
    | succ n ih => intro x1 x2 x3 h hf; exact B32 _ ih _ _ _ _ hf
  intro H locs ls hl hH
  replace hl : lv_has ls 7 [(0, .ref (X.2.2.2 a0))] := hl
  unfold f_X7_readText at hf
  refine lv_aload_n hx hb dX7_readText_0 rfl (lv_at hl 0 rfl) ?_
  refine lv_iconst (v := 0) hx hb dX7_readText_1 (by decide) ?_
  refine wk_puti (ci := 6) (k := 17) S hK hH j_X7 tyX7 tyX7_ok nmX7 t0 rfl hq_6_17 rfl hd_6_17 (hts _ (wU_in _ m_641)) dX7_readText_2 (fun H locs hH => ?_)
  refine lv_aload_n hx hb dX7_readText_5 rfl (lv_at hl 0 rfl) ?_
  refine lv_iconst (v := 0) hx hb dX7_readText_6 (by decide) ?_
  refine wk_puti (ci := 6) (k := 18) S hK hH j_X7 tyX7 tyX7_ok nmX7 t0 rfl hq_6_18 rfl hd_6_18 (hts _ (wU_in _ m_642)) dX7_readText_7 (fun H locs hH => ?_)
  refine lv_aload_n hx hb dX7_readText_10 rfl (lv_at hl 0 rfl) ?_
  refine lv_iconst (v := 0) hx hb dX7_readText_11 (by decide) ?_
  refine wk_puti (ci := 6) (k := 19) S hK hH j_X7 tyX7 tyX7_ok nmX7 t0 rfl hq_6_19 rfl hd_6_19 (hts _ (wU_in _ m_643)) dX7_readText_12 (fun H locs hH => ?_)
  refine lv_aload_n hx hb dX7_readText_15 rfl (lv_at hl 0 rfl) ?_
  refine lv_iconst (v := 0) hx hb dX7_readText_16 (by decide) ?_
  refine wk_puti (ci := 6) (k := 20) S hK hH j_X7 tyX7 tyX7_ok nmX7 t0 rfl hq_6_20 rfl hd_6_20 (hts _ (wU_in _ m_644)) dX7_readText_17 (fun H locs hH => ?_)
  refine lv_aload_n hx hb dX7_readText_20 rfl (lv_at hl 0 rfl) ?_
  refine lv_bipush (v := (-9)) hx hb dX7_readText_21 (by decide) ?_
  refine wk_puti (ci := 6) (k := 21) S hK hH j_X7 tyX7 tyX7_ok nmX7 t0 rfl hq_6_21 rfl hd_6_21 (hts _ (wU_in _ m_645)) dX7_readText_23 (fun H locs hH => ?_)
  refine lv_iconst (v := 0) hx hb dX7_readText_26 (by decide) ?_
  refine lv_istore_n (lv' := [(1, .int ((0 : Int32))), (0, .ref (X.2.2.2 a0))]) hx hb dX7_readText_27 rfl hl (by decide) rfl (fun ls hl => ?_)
  refine lv_iconst (v := 0) hx hb dX7_readText_28 (by decide) ?_
  refine lv_istore_n (lv' := [(2, .int ((0 : Int32))), (1, .int ((0 : Int32))), (0, .ref (X.2.2.2 a0))]) hx hb dX7_readText_29 rfl hl (by decide) rfl (fun ls hl => ?_)
  refine lv_iconst (v := 0) hx hb dX7_readText_30 (by decide) ?_
  refine lv_istore_n (lv' := [(3, .int ((0 : Int32))), (2, .int ((0 : Int32))), (1, .int ((0 : Int32))), (0, .ref (X.2.2.2 a0))]) hx hb dX7_readText_31 rfl hl (by decide) rfl (fun ls hl => ?_)
  exact BL32 FU _ _ _ _ hf H locs ls (lv_sub hl [3, 2, 1, 0] rfl) hH
set_option maxHeartbeats 4000000 in
set_option maxRecDepth 100000 in
theorem C_X7_fault (l : Launch) (X : Cx) (hI : Inj X) {a0 : Nat} (t0 : tY a0 = 6) (a1 : Int32) (h : Hp) (r0 : Int32) (h0 : Hp) (hf : f_X7_fault a0 a1 h = some (r0, h0)) : Mi l X yX7_fault cX7_fault 3 (some .int) 5 116 h [.ref (X.2.2.2 a0), .int a1] r0 h0 := by
  refine BD_of (own := RX7) hI rfl (by decide) (Nat.le_of_ble_eq_true rfl) ?_
  intro p e s m args below meth c S hr hlk hK hN
  obtain ⟨hx, hb, hml, hown, hts⟩ := id S
  intro H locs ls hl hH
  replace hl : lv_has ls 3 [(0, .ref (X.2.2.2 a0)), (1, .int a1)] := hl
  unfold f_X7_fault at hf
  refine lv_iload_n hx hb dX7_fault_0 rfl (lv_at hl 1 rfl) ?_
  refine lv_i2l hx hb dX7_fault_1 rfl ?_
  refine lv_lconst (v := 0) hx hb dX7_fault_2 (by decide) ?_
  refine lv_lconst (v := 1) hx hb dX7_fault_3 (by decide) ?_
  obtain ⟨r3, h2, hq1, hf⟩ := bnd_ok hf
  refine wk_callSi (As := [.long ((a1).toInt64), .long ((0 : Int64)), .long ((1 : Int64))]) (rest := []) S hK hN hH (C_X7_in l X hI ((a1).toInt64) (0 : Int64) (1 : Int64) _ _ _ hq1) (va_cwS 3 hts (gS wU_in m_720 m_721 m_41 m_722) rfl rfl rfl hdS_X7_in ⟨Nat.le_of_ble_eq_true rfl, Nat.le_of_ble_eq_true rfl⟩) hl.1 rfl rfl (Nat.le_of_ble_eq_true rfl) dX7_fault_4 ⟨Nat.zero_le _, Nat.zero_le _⟩ (fun H locs hH => ?_)
  refine lv_if_ne (tgt := 13) hx hb dX7_fault_7 (by decide) (fun c4 => ?_) (fun c4 => ?_)
  · replace hf := ite_f c4 hf
    refine lv_aload_n hx hb dX7_fault_13 rfl (lv_at hl 0 rfl) ?_
    obtain ⟨r7, h6, hq5, hf⟩ := bnd_ok hf
    refine wk_callVi (ci := 6) (b := a0) (As := []) (rest := []) S hK hN hH t0 (by decide) rfl (C_X7_readText l X hI t0 _ _ _ hq5) (cwV 0 hts (gV wU_in m_731 m_733 m_13 m_41 m_734) rfl rfl rfl hdV_X7_readText ⟨Nat.le_of_ble_eq_true rfl, Nat.le_of_ble_eq_true rfl⟩) hl.1 rfl rfl (Nat.le_of_ble_eq_true rfl) dX7_fault_14 ⟨Nat.zero_le _, Nat.zero_le _⟩ (fun H locs hH => ?_)
    refine lv_istore_n (lv' := [(2, .int r7), (0, .ref (X.2.2.2 a0)), (1, .int a1)]) hx hb dX7_fault_17 rfl hl (by decide) rfl (fun ls hl => ?_)
    refine lv_iload_n hx hb dX7_fault_18 rfl (lv_at hl 2 rfl) ?_
    refine lv_if_ne (tgt := 26) hx hb dX7_fault_19 (by decide) (fun c8 => ?_) (fun c8 => ?_)
    · replace hf := ite_f c8 hf
      refine lv_aload_n hx hb dX7_fault_26 rfl (lv_at hl 1 rfl) ?_
      refine wk_geti (ci := 6) (k := 21) S hK hH j_X7 t0 rfl hq_6_21 (hts _ (wU_in _ m_645)) dX7_fault_27 ?_
      exact wk_iret S hr hlk hK hN hH hf dX7_fault_30
    · replace hf := ite_t c8 hf
      refine lv_iload_n hx hb dX7_fault_22 rfl (lv_at hl 0 rfl) ?_
      refine lv_goto (tgt := 30) hx hb dX7_fault_23 (by decide) ?_
      exact wk_iret S hr hlk hK hN hH hf dX7_fault_30
  · replace hf := ite_t c4 hf
    refine lv_bipush (v := (-2)) hx hb dX7_fault_10 (by decide) ?_
    exact wk_iret S hr hlk hK hN hH hf dX7_fault_12
set_option maxHeartbeats 4000000 in
set_option maxRecDepth 100000 in
theorem C_X7_list (l : Launch) (X : Cx) (hI : Inj X) {a0 : Nat} (t0 : tY a0 = 6) (h : Hp) (r0 : Int32) (h0 : Hp) (hf : f_X7_list a0 h = some (r0, h0)) : Mi l X yX7_list cX7_list 2 (some .int) 5 116 h [.ref (X.2.2.2 a0)] r0 h0 := by
  refine BD_of (own := RX7) hI rfl (by decide) (Nat.le_of_ble_eq_true rfl) ?_
  intro p e s m args below meth c S hr hlk hK hN
  obtain ⟨hx, hb, hml, hown, hts⟩ := id S
  have B117 : ∀ (k117 : Int32 → Hp → Option (Int32 × Hp)) (hk117 : ∀ (x1 : Int32) (h : Hp), k117 x1 h = some (r0, h0) → BK p l e ({ frames := 5, cells := 0, slots := 0, locals := 116 }) s m args below meth c (MQ below (cQi X r0 h0) args s 0 0 (AD X)) X 2 117 [(0, .ref (X.2.2.2 a0)), (1, .int x1)] [] h) (x1 : Int32) (h : Hp), g_X7_list_117 a0 k117 x1 h = some (r0, h0) → BK p l e ({ frames := 5, cells := 0, slots := 0, locals := 116 }) s m args below meth c (MQ below (cQi X r0 h0) args s 0 0 (AD X)) X 2 117 [(0, .ref (X.2.2.2 a0)), (1, .int x1)] [] h := by
    intro k117 hk117 x1 h hf H locs ls hl hH
    unfold g_X7_list_117 at hf
    refine lv_iload_n hx hb dX7_list_117 rfl (lv_at hl 1 rfl) ?_
    refine lv_iconst (v := 4) hx hb dX7_list_118 (by decide) ?_
    refine lv_aload_n hx hb dX7_list_119 rfl (lv_at hl 0 rfl) ?_
    refine wk_geti (ci := 6) (k := 13) S hK hH j_X7 t0 rfl hq_6_13 (hts _ (wU_in _ m_637)) dX7_list_120 ?_
    refine lv_imul hx hb dX7_list_123 ?_
    refine lv_icmp_ge (tgt := 147) hx hb dX7_list_124 (by decide) (fun c1 => ?_) (fun c1 => ?_)
    · replace hf := ite_t c1 hf
      refine lv_aload_n hx hb dX7_list_147 rfl (lv_at hl 0 rfl) ?_
      obtain ⟨h3, hq2, hf⟩ := bind_ok hf
      refine wk_callVv (ci := 6) (b := a0) (As := []) (rest := []) S hK hN hH t0 (by decide) rfl (C_X7_forgetForms l X hI t0 _ _ hq2) (cwV 0 hts (gV wU_in m_620 m_622 m_12 m_41 m_623) rfl rfl rfl hdV_X7_forgetForms ⟨Nat.le_of_ble_eq_true rfl, Nat.le_of_ble_eq_true rfl⟩) hl.1 rfl rfl (Nat.le_of_ble_eq_true rfl) dX7_list_148 ⟨Nat.zero_le _, Nat.zero_le _⟩ (fun H locs hH => ?_)
      refine lv_aload_n hx hb dX7_list_151 rfl (lv_at hl 0 rfl) ?_
      refine lv_iconst (v := 0) hx hb dX7_list_152 (by decide) ?_
      refine wk_puti (ci := 6) (k := 5) S hK hH j_X7 tyX7 tyX7_ok nmX7 t0 rfl hq_6_5 rfl hd_6_5 (hts _ (wU_in _ m_629)) dX7_list_153 (fun H locs hH => ?_)
      refine lv_aload_n hx hb dX7_list_156 rfl (lv_at hl 0 rfl) ?_
      refine wk_getr (ci := 6) (k := 8) S hK hH j_X7 t0 rfl hq_6_8 (hts _ (wU_in _ m_632)) dX7_list_157 ?_
      refine lv_iconst (v := 0) hx hb dX7_list_160 (by decide) ?_
      refine lv_iconst (v := 0) hx hb dX7_list_161 (by decide) ?_
      obtain ⟨o5, hf⟩ := ite_ok hf
      refine wk_zast S hK hH (tr_6_8 t0) o5 dX7_list_162 (fun H locs hH => ?_)
      refine lv_aload_n hx hb dX7_list_163 rfl (lv_at hl 0 rfl) ?_
      refine wk_getr (ci := 6) (k := 8) S hK hH j_X7 t0 rfl hq_6_8 (hts _ (wU_in _ m_632)) dX7_list_164 ?_
      refine lv_iconst (v := 1) hx hb dX7_list_167 (by decide) ?_
      refine lv_iconst (v := 0) hx hb dX7_list_168 (by decide) ?_
      obtain ⟨o6, hf⟩ := ite_ok hf
      refine wk_zast S hK hH (tr_6_8 t0) o6 dX7_list_169 (fun H locs hH => ?_)
      refine lv_aload_n hx hb dX7_list_170 rfl (lv_at hl 0 rfl) ?_
      refine wk_geti (ci := 6) (k := 20) S hK hH j_X7 t0 rfl hq_6_20 (hts _ (wU_in _ m_644)) dX7_list_171 ?_
      exact wk_iret S hr hlk hK hN hH hf dX7_list_174
    · replace hf := ite_f c1 hf
      refine lv_aload_n hx hb dX7_list_127 rfl (lv_at hl 0 rfl) ?_
      refine wk_getr (ci := 6) (k := 2) S hK hH j_X7 t0 rfl hq_6_2 (hts _ (wU_in _ m_626)) dX7_list_128 ?_
      refine lv_iconst (v := 4) hx hb dX7_list_131 (by decide) ?_
      refine lv_iload_n hx hb dX7_list_132 rfl (lv_at hl 1 rfl) ?_
      refine lv_iadd hx hb dX7_list_133 ?_
      refine lv_aload_n hx hb dX7_list_134 rfl (lv_at hl 0 rfl) ?_
      refine wk_getr (ci := 6) (k := 16) S hK hH j_X7 t0 rfl hq_6_16 (hts _ (wU_in _ m_640)) dX7_list_135 ?_
      refine lv_iload_n hx hb dX7_list_138 rfl (lv_at hl 1 rfl) ?_
      obtain ⟨o7, hf⟩ := ite_ok hf
      refine wk_iald S hK hH (tr_6_16 t0) o7 dX7_list_139 ?_
      obtain ⟨o8, hf⟩ := ite_ok hf
      refine wk_iast S hK hH (tr_6_2 t0) o8 dX7_list_140 (fun H locs hH => ?_)
      refine lv_iinc (v := (x1 + (1 : Int32))) (lv' := [(1, .int ((x1 + (1 : Int32)))), (0, .ref (X.2.2.2 a0))]) hx hb dX7_list_141 hl (k := 1) rfl rfl (by decide) rfl (fun ls hl => ?_)
      refine lv_goto (tgt := 117) hx hb dX7_list_144 (by decide) ?_
      exact hk117 _ _ hf H locs ls (lv_sub hl [1, 0] rfl) hH
  have BL117 : ∀ (n : Nat) (x1 : Int32) (h : Hp), f_X7_list_117 a0 n x1 h = some (r0, h0) → BK p l e ({ frames := 5, cells := 0, slots := 0, locals := 116 }) s m args below meth c (MQ below (cQi X r0 h0) args s 0 0 (AD X)) X 2 117 [(0, .ref (X.2.2.2 a0)), (1, .int x1)] [] h := by
    intro n
    induction n with
    | zero => intro x1 h hf; cases hf
    | succ n ih => intro x1 h hf; exact B117 _ ih _ _ hf
  have B94 : ∀ (k94 : Int32 → Hp → Option (Int32 × Hp)) (hk94 : ∀ (x1 : Int32) (h : Hp), k94 x1 h = some (r0, h0) → BK p l e ({ frames := 5, cells := 0, slots := 0, locals := 116 }) s m args below meth c (MQ below (cQi X r0 h0) args s 0 0 (AD X)) X 2 94 [(0, .ref (X.2.2.2 a0)), (1, .int x1)] [] h) (x1 : Int32) (h : Hp), g_X7_list_94 a0 k94 x1 h = some (r0, h0) → BK p l e ({ frames := 5, cells := 0, slots := 0, locals := 116 }) s m args below meth c (MQ below (cQi X r0 h0) args s 0 0 (AD X)) X 2 94 [(0, .ref (X.2.2.2 a0)), (1, .int x1)] [] h := by
    intro k94 hk94 x1 h hf H locs ls hl hH
    unfold g_X7_list_94 at hf
    refine lv_iload_n hx hb dX7_list_94 rfl (lv_at hl 1 rfl) ?_
    refine lv_aload_n hx hb dX7_list_95 rfl (lv_at hl 0 rfl) ?_
    refine wk_geti (ci := 6) (k := 13) S hK hH j_X7 t0 rfl hq_6_13 (hts _ (wU_in _ m_637)) dX7_list_96 ?_
    refine lv_icmp_ge (tgt := 115) hx hb dX7_list_99 (by decide) (fun c9 => ?_) (fun c9 => ?_)
    · replace hf := ite_t c9 hf
      refine lv_iconst (v := 0) hx hb dX7_list_115 (by decide) ?_
      refine lv_istore_n (lv' := [(1, .int ((0 : Int32))), (0, .ref (X.2.2.2 a0))]) hx hb dX7_list_116 rfl hl (by decide) rfl (fun ls hl => ?_)
      exact BL117 FU _ _ hf H locs ls (lv_sub hl [1, 0] rfl) hH
    · replace hf := ite_f c9 hf
      refine lv_aload_n hx hb dX7_list_102 rfl (lv_at hl 0 rfl) ?_
      refine wk_getr (ci := 6) (k := 2) S hK hH j_X7 t0 rfl hq_6_2 (hts _ (wU_in _ m_626)) dX7_list_103 ?_
      refine lv_iload_n hx hb dX7_list_106 rfl (lv_at hl 1 rfl) ?_
      refine lv_iload_n hx hb dX7_list_107 rfl (lv_at hl 1 rfl) ?_
      obtain ⟨o10, hf⟩ := ite_ok hf
      refine wk_iast S hK hH (tr_6_2 t0) o10 dX7_list_108 (fun H locs hH => ?_)
      refine lv_iinc (v := (x1 + (1 : Int32))) (lv' := [(1, .int ((x1 + (1 : Int32)))), (0, .ref (X.2.2.2 a0))]) hx hb dX7_list_109 hl (k := 1) rfl rfl (by decide) rfl (fun ls hl => ?_)
      refine lv_goto (tgt := 94) hx hb dX7_list_112 (by decide) ?_
      exact hk94 _ _ hf H locs ls (lv_sub hl [1, 0] rfl) hH
  have BL94 : ∀ (n : Nat) (x1 : Int32) (h : Hp), f_X7_list_94 a0 n x1 h = some (r0, h0) → BK p l e ({ frames := 5, cells := 0, slots := 0, locals := 116 }) s m args below meth c (MQ below (cQi X r0 h0) args s 0 0 (AD X)) X 2 94 [(0, .ref (X.2.2.2 a0)), (1, .int x1)] [] h := by
    intro n
    induction n with
    | zero => intro x1 h hf; cases hf
    | succ n ih => intro x1 h hf; exact B94 _ ih _ _ hf
  have B66 : ∀ (k66 : Int32 → Hp → Option (Int32 × Hp)) (hk66 : ∀ (x1 : Int32) (h : Hp), k66 x1 h = some (r0, h0) → BK p l e ({ frames := 5, cells := 0, slots := 0, locals := 116 }) s m args below meth c (MQ below (cQi X r0 h0) args s 0 0 (AD X)) X 2 66 [(0, .ref (X.2.2.2 a0)), (1, .int x1)] [] h) (x1 : Int32) (h : Hp), g_X7_list_66 a0 k66 x1 h = some (r0, h0) → BK p l e ({ frames := 5, cells := 0, slots := 0, locals := 116 }) s m args below meth c (MQ below (cQi X r0 h0) args s 0 0 (AD X)) X 2 66 [(0, .ref (X.2.2.2 a0)), (1, .int x1)] [] h := by
    intro k66 hk66 x1 h hf H locs ls hl hH
    unfold g_X7_list_66 at hf
    refine lv_iload_n hx hb dX7_list_66 rfl (lv_at hl 1 rfl) ?_
    refine lv_aload_n hx hb dX7_list_67 rfl (lv_at hl 0 rfl) ?_
    refine wk_geti (ci := 6) (k := 12) S hK hH j_X7 t0 rfl hq_6_12 (hts _ (wU_in _ m_636)) dX7_list_68 ?_
    refine lv_icmp_ge (tgt := 92) hx hb dX7_list_71 (by decide) (fun c11 => ?_) (fun c11 => ?_)
    · replace hf := ite_t c11 hf
      refine lv_iconst (v := 0) hx hb dX7_list_92 (by decide) ?_
      refine lv_istore_n (lv' := [(1, .int ((0 : Int32))), (0, .ref (X.2.2.2 a0))]) hx hb dX7_list_93 rfl hl (by decide) rfl (fun ls hl => ?_)
      exact BL94 FU _ _ hf H locs ls (lv_sub hl [1, 0] rfl) hH
    · replace hf := ite_f c11 hf
      refine lv_aload_n hx hb dX7_list_74 rfl (lv_at hl 0 rfl) ?_
      refine wk_getr (ci := 6) (k := 10) S hK hH j_X7 t0 rfl hq_6_10 (hts _ (wU_in _ m_634)) dX7_list_75 ?_
      refine lv_iload_n hx hb dX7_list_78 rfl (lv_at hl 1 rfl) ?_
      refine lv_aload_n hx hb dX7_list_79 rfl (lv_at hl 0 rfl) ?_
      refine wk_getr (ci := 6) (k := 15) S hK hH j_X7 t0 rfl hq_6_15 (hts _ (wU_in _ m_639)) dX7_list_80 ?_
      refine lv_iload_n hx hb dX7_list_83 rfl (lv_at hl 1 rfl) ?_
      obtain ⟨o12, hf⟩ := ite_ok hf
      refine wk_iald S hK hH (tr_6_15 t0) o12 dX7_list_84 ?_
      obtain ⟨o13, hf⟩ := ite_ok hf
      refine wk_iast S hK hH (tr_6_10 t0) o13 dX7_list_85 (fun H locs hH => ?_)
      refine lv_iinc (v := (x1 + (1 : Int32))) (lv' := [(1, .int ((x1 + (1 : Int32)))), (0, .ref (X.2.2.2 a0))]) hx hb dX7_list_86 hl (k := 1) rfl rfl (by decide) rfl (fun ls hl => ?_)
      refine lv_goto (tgt := 66) hx hb dX7_list_89 (by decide) ?_
      exact hk66 _ _ hf H locs ls (lv_sub hl [1, 0] rfl) hH
  have BL66 : ∀ (n : Nat) (x1 : Int32) (h : Hp), f_X7_list_66 a0 n x1 h = some (r0, h0) → BK p l e ({ frames := 5, cells := 0, slots := 0, locals := 116 }) s m args below meth c (MQ below (cQi X r0 h0) args s 0 0 (AD X)) X 2 66 [(0, .ref (X.2.2.2 a0)), (1, .int x1)] [] h := by
    intro n
    induction n with
    | zero => intro x1 h hf; cases hf
    | succ n ih => intro x1 h hf; exact B66 _ ih _ _ hf
  have B38 : ∀ (k38 : Int32 → Hp → Option (Int32 × Hp)) (hk38 : ∀ (x1 : Int32) (h : Hp), k38 x1 h = some (r0, h0) → BK p l e ({ frames := 5, cells := 0, slots := 0, locals := 116 }) s m args below meth c (MQ below (cQi X r0 h0) args s 0 0 (AD X)) X 2 38 [(0, .ref (X.2.2.2 a0)), (1, .int x1)] [] h) (x1 : Int32) (h : Hp), g_X7_list_38 a0 k38 x1 h = some (r0, h0) → BK p l e ({ frames := 5, cells := 0, slots := 0, locals := 116 }) s m args below meth c (MQ below (cQi X r0 h0) args s 0 0 (AD X)) X 2 38 [(0, .ref (X.2.2.2 a0)), (1, .int x1)] [] h := by
    intro k38 hk38 x1 h hf H locs ls hl hH
    unfold g_X7_list_38 at hf
    refine lv_iload_n hx hb dX7_list_38 rfl (lv_at hl 1 rfl) ?_
    refine lv_aload_n hx hb dX7_list_39 rfl (lv_at hl 0 rfl) ?_
    refine wk_geti (ci := 6) (k := 11) S hK hH j_X7 t0 rfl hq_6_11 (hts _ (wU_in _ m_635)) dX7_list_40 ?_
    refine lv_icmp_ge (tgt := 64) hx hb dX7_list_43 (by decide) (fun c14 => ?_) (fun c14 => ?_)
    · replace hf := ite_t c14 hf
      refine lv_iconst (v := 0) hx hb dX7_list_64 (by decide) ?_
      refine lv_istore_n (lv' := [(1, .int ((0 : Int32))), (0, .ref (X.2.2.2 a0))]) hx hb dX7_list_65 rfl hl (by decide) rfl (fun ls hl => ?_)
      exact BL66 FU _ _ hf H locs ls (lv_sub hl [1, 0] rfl) hH
    · replace hf := ite_f c14 hf
      refine lv_aload_n hx hb dX7_list_46 rfl (lv_at hl 0 rfl) ?_
      refine wk_getr (ci := 6) (k := 9) S hK hH j_X7 t0 rfl hq_6_9 (hts _ (wU_in _ m_633)) dX7_list_47 ?_
      refine lv_iload_n hx hb dX7_list_50 rfl (lv_at hl 1 rfl) ?_
      refine lv_aload_n hx hb dX7_list_51 rfl (lv_at hl 0 rfl) ?_
      refine wk_getr (ci := 6) (k := 14) S hK hH j_X7 t0 rfl hq_6_14 (hts _ (wU_in _ m_638)) dX7_list_52 ?_
      refine lv_iload_n hx hb dX7_list_55 rfl (lv_at hl 1 rfl) ?_
      obtain ⟨o15, hf⟩ := ite_ok hf
      refine wk_iald S hK hH (tr_6_14 t0) o15 dX7_list_56 ?_
      obtain ⟨o16, hf⟩ := ite_ok hf
      refine wk_iast S hK hH (tr_6_9 t0) o16 dX7_list_57 (fun H locs hH => ?_)
      refine lv_iinc (v := (x1 + (1 : Int32))) (lv' := [(1, .int ((x1 + (1 : Int32)))), (0, .ref (X.2.2.2 a0))]) hx hb dX7_list_58 hl (k := 1) rfl rfl (by decide) rfl (fun ls hl => ?_)
      refine lv_goto (tgt := 38) hx hb dX7_list_61 (by decide) ?_
      exact hk38 _ _ hf H locs ls (lv_sub hl [1, 0] rfl) hH
  have BL38 : ∀ (n : Nat) (x1 : Int32) (h : Hp), f_X7_list_38 a0 n x1 h = some (r0, h0) → BK p l e ({ frames := 5, cells := 0, slots := 0, locals := 116 }) s m args below meth c (MQ below (cQi X r0 h0) args s 0 0 (AD X)) X 2 38 [(0, .ref (X.2.2.2 a0)), (1, .int x1)] [] h := by
    intro n
    induction n with
    | zero => intro x1 h hf; cases hf
    | succ n ih => intro x1 h hf; exact B38 _ ih _ _ hf
  intro H locs ls hl hH
  replace hl : lv_has ls 2 [(0, .ref (X.2.2.2 a0))] := hl
  unfold f_X7_list at hf
  refine lv_aload_n hx hb dX7_list_0 rfl (lv_at hl 0 rfl) ?_
  obtain ⟨r19, h18, hq17, hf⟩ := bnd_ok hf
  refine wk_callVi (ci := 6) (b := a0) (As := []) (rest := []) S hK hN hH t0 (by decide) rfl (C_X7_readText l X hI t0 _ _ _ hq17) (cwV 0 hts (gV wU_in m_731 m_733 m_13 m_41 m_734) rfl rfl rfl hdV_X7_readText ⟨Nat.le_of_ble_eq_true rfl, Nat.le_of_ble_eq_true rfl⟩) hl.1 rfl rfl (Nat.le_of_ble_eq_true rfl) dX7_list_1 ⟨Nat.zero_le _, Nat.zero_le _⟩ (fun H locs hH => ?_)
  refine lv_bipush (v := (-9)) hx hb dX7_list_4 (by decide) ?_
  refine lv_icmp_eq (tgt := 12) hx hb dX7_list_6 (by decide) (fun c20 => ?_) (fun c20 => ?_)
  · replace hf := ite_t c20 hf
    refine lv_aload_n hx hb dX7_list_12 rfl (lv_at hl 0 rfl) ?_
    refine lv_aload_n hx hb dX7_list_13 rfl (lv_at hl 0 rfl) ?_
    refine wk_geti (ci := 6) (k := 17) S hK hH j_X7 t0 rfl hq_6_17 (hts _ (wU_in _ m_641)) dX7_list_14 ?_
    refine wk_puti (ci := 6) (k := 11) S hK hH j_X7 tyX7 tyX7_ok nmX7 t0 rfl hq_6_11 rfl hd_6_11 (hts _ (wU_in _ m_635)) dX7_list_17 (fun H locs hH => ?_)
    refine lv_aload_n hx hb dX7_list_20 rfl (lv_at hl 0 rfl) ?_
    refine lv_aload_n hx hb dX7_list_21 rfl (lv_at hl 0 rfl) ?_
    refine wk_geti (ci := 6) (k := 18) S hK hH j_X7 t0 rfl hq_6_18 (hts _ (wU_in _ m_642)) dX7_list_22 ?_
    refine wk_puti (ci := 6) (k := 12) S hK hH j_X7 tyX7 tyX7_ok nmX7 t0 rfl hq_6_12 rfl hd_6_12 (hts _ (wU_in _ m_636)) dX7_list_25 (fun H locs hH => ?_)
    refine lv_aload_n hx hb dX7_list_28 rfl (lv_at hl 0 rfl) ?_
    refine lv_aload_n hx hb dX7_list_29 rfl (lv_at hl 0 rfl) ?_
    refine wk_geti (ci := 6) (k := 19) S hK hH j_X7 t0 rfl hq_6_19 (hts _ (wU_in _ m_643)) dX7_list_30 ?_
    refine wk_puti (ci := 6) (k := 13) S hK hH j_X7 tyX7 tyX7_ok nmX7 t0 rfl hq_6_13 rfl hd_6_13 (hts _ (wU_in _ m_637)) dX7_list_33 (fun H locs hH => ?_)
    refine lv_iconst (v := 0) hx hb dX7_list_36 (by decide) ?_
    refine lv_istore_n (lv' := [(1, .int ((0 : Int32))), (0, .ref (X.2.2.2 a0))]) hx hb dX7_list_37 rfl hl (by decide) rfl (fun ls hl => ?_)
    exact BL38 FU _ _ hf H locs ls (lv_sub hl [1, 0] rfl) hH
  · replace hf := ite_f c20 hf
    refine lv_bipush (v := (-3)) hx hb dX7_list_9 (by decide) ?_
    exact wk_iret S hr hlk hK hN hH hf dX7_list_11
set_option maxHeartbeats 4000000 in
set_option maxRecDepth 100000 in
theorem C_X7_unlike (l : Launch) (X : Cx) (hI : Inj X) {a0 : Nat} (t0 : tY a0 = 6) {a1 : Nat} (t1 : tY a1 = 100) (a2 : Int32) (h : Hp) (r0 : Int32) (h0 : Hp) (hf : f_X7_unlike a0 a1 a2 h = some (r0, h0)) : Mi l X yX7_unlike cX7_unlike 8 (some .int) 4 100 h [.ref (X.2.2.2 a0), .ref (X.2.2.2 a1), .int a2] r0 h0 := by
  refine BD_of (own := RX7) hI rfl (by decide) (Nat.le_of_ble_eq_true rfl) ?_
  intro p e s m args below meth c S hr hlk hK hN
  obtain ⟨hx, hb, hml, hown, hts⟩ := id S
  have B75 : ∀ (k5 : Int32 → Int32 → Hp → Option (Int32 × Hp)) (hk5 : ∀ (x3 : Int32) (x4 : Int32) (h : Hp), k5 x3 x4 h = some (r0, h0) → BK p l e ({ frames := 4, cells := 0, slots := 0, locals := 100 }) s m args below meth c (MQ below (cQi X r0 h0) args s 0 0 (AD X)) X 8 5 [(0, .ref (X.2.2.2 a0)), (1, .ref (X.2.2.2 a1)), (2, .int a2), (3, .int x3), (4, .int x4)] [] h) (k47 : Int32 → Int32 → Int32 → Int32 → Int32 → Hp → Option (Int32 × Hp)) (hk47 : ∀ (x3 : Int32) (x4 : Int32) (x5 : Int32) (x6 : Int32) (x7 : Int32) (h : Hp), k47 x3 x4 x5 x6 x7 h = some (r0, h0) → BK p l e ({ frames := 4, cells := 0, slots := 0, locals := 100 }) s m args below meth c (MQ below (cQi X r0 h0) args s 0 0 (AD X)) X 8 47 [(0, .ref (X.2.2.2 a0)), (1, .ref (X.2.2.2 a1)), (2, .int a2), (3, .int x3), (4, .int x4), (5, .int x5), (6, .int x6), (7, .int x7)] [] h) (x3 : Int32) (x4 : Int32) (x5 : Int32) (x7 : Int32) (z0 : Int32) (h : Hp), g_X7_unlike_75 a0 a1 a2 k5 k47 x3 x4 x5 x7 z0 h = some (r0, h0) → BK p l e ({ frames := 4, cells := 0, slots := 0, locals := 100 }) s m args below meth c (MQ below (cQi X r0 h0) args s 0 0 (AD X)) X 8 75 [(0, .ref (X.2.2.2 a0)), (1, .ref (X.2.2.2 a1)), (2, .int a2), (3, .int x3), (4, .int x4), (5, .int x5), (7, .int x7)] [.int z0] h := by
    intro k5 hk5 k47 hk47 x3 x4 x5 x7 z0 h hf H locs ls hl hH
    unfold g_X7_unlike_75 at hf
    refine lv_istore (lv' := [(6, .int z0), (0, .ref (X.2.2.2 a0)), (1, .ref (X.2.2.2 a1)), (2, .int a2), (3, .int x3), (4, .int x4), (5, .int x5), (7, .int x7)]) hx hb dX7_unlike_75 hl (by decide) rfl (fun ls hl => ?_)
    refine lv_iinc (v := (x7 + (1 : Int32))) (lv' := [(7, .int ((x7 + (1 : Int32)))), (6, .int z0), (0, .ref (X.2.2.2 a0)), (1, .ref (X.2.2.2 a1)), (2, .int a2), (3, .int x3), (4, .int x4), (5, .int x5)]) hx hb dX7_unlike_77 hl (k := 7) rfl rfl (by decide) rfl (fun ls hl => ?_)
    refine lv_goto (tgt := 47) hx hb dX7_unlike_80 (by decide) ?_
    exact hk47 _ _ _ _ _ _ hf H locs ls (lv_sub hl [2, 3, 4, 5, 6, 7, 1, 0] rfl) hH
  have B70 : ∀ (k5 : Int32 → Int32 → Hp → Option (Int32 × Hp)) (hk5 : ∀ (x3 : Int32) (x4 : Int32) (h : Hp), k5 x3 x4 h = some (r0, h0) → BK p l e ({ frames := 4, cells := 0, slots := 0, locals := 100 }) s m args below meth c (MQ below (cQi X r0 h0) args s 0 0 (AD X)) X 8 5 [(0, .ref (X.2.2.2 a0)), (1, .ref (X.2.2.2 a1)), (2, .int a2), (3, .int x3), (4, .int x4)] [] h) (k47 : Int32 → Int32 → Int32 → Int32 → Int32 → Hp → Option (Int32 × Hp)) (hk47 : ∀ (x3 : Int32) (x4 : Int32) (x5 : Int32) (x6 : Int32) (x7 : Int32) (h : Hp), k47 x3 x4 x5 x6 x7 h = some (r0, h0) → BK p l e ({ frames := 4, cells := 0, slots := 0, locals := 100 }) s m args below meth c (MQ below (cQi X r0 h0) args s 0 0 (AD X)) X 8 47 [(0, .ref (X.2.2.2 a0)), (1, .ref (X.2.2.2 a1)), (2, .int a2), (3, .int x3), (4, .int x4), (5, .int x5), (6, .int x6), (7, .int x7)] [] h) (x3 : Int32) (x4 : Int32) (x5 : Int32) (x7 : Int32) (h : Hp), g_X7_unlike_70 a0 a1 a2 k5 k47 x3 x4 x5 x7 h = some (r0, h0) → BK p l e ({ frames := 4, cells := 0, slots := 0, locals := 100 }) s m args below meth c (MQ below (cQi X r0 h0) args s 0 0 (AD X)) X 8 70 [(0, .ref (X.2.2.2 a0)), (1, .ref (X.2.2.2 a1)), (2, .int a2), (3, .int x3), (4, .int x4), (5, .int x5), (7, .int x7)] [] h := by
    intro k5 hk5 k47 hk47 x3 x4 x5 x7 h hf H locs ls hl hH
    unfold g_X7_unlike_70 at hf
    refine lv_iconst (v := 1) hx hb dX7_unlike_70 (by decide) ?_
    refine lv_goto (tgt := 75) hx hb dX7_unlike_71 (by decide) ?_
    exact B75 k5 hk5 k47 hk47 _ _ _ _ _ _ hf H locs ls (lv_sub hl [0, 1, 2, 3, 4, 5, 6] rfl) hH
  have B99 : ∀ (k5 : Int32 → Int32 → Hp → Option (Int32 × Hp)) (hk5 : ∀ (x3 : Int32) (x4 : Int32) (h : Hp), k5 x3 x4 h = some (r0, h0) → BK p l e ({ frames := 4, cells := 0, slots := 0, locals := 100 }) s m args below meth c (MQ below (cQi X r0 h0) args s 0 0 (AD X)) X 8 5 [(0, .ref (X.2.2.2 a0)), (1, .ref (X.2.2.2 a1)), (2, .int a2), (3, .int x3), (4, .int x4)] [] h) (x3 : Int32) (x4 : Int32) (h : Hp), g_X7_unlike_99 a0 a1 a2 k5 x3 x4 h = some (r0, h0) → BK p l e ({ frames := 4, cells := 0, slots := 0, locals := 100 }) s m args below meth c (MQ below (cQi X r0 h0) args s 0 0 (AD X)) X 8 99 [(0, .ref (X.2.2.2 a0)), (1, .ref (X.2.2.2 a1)), (2, .int a2), (3, .int x3), (4, .int x4)] [] h := by
    intro k5 hk5 x3 x4 h hf H locs ls hl hH
    unfold g_X7_unlike_99 at hf
    refine lv_iinc (v := (x4 + (1 : Int32))) (lv' := [(4, .int ((x4 + (1 : Int32)))), (0, .ref (X.2.2.2 a0)), (1, .ref (X.2.2.2 a1)), (2, .int a2), (3, .int x3)]) hx hb dX7_unlike_99 hl (k := 4) rfl rfl (by decide) rfl (fun ls hl => ?_)
    refine lv_goto (tgt := 5) hx hb dX7_unlike_102 (by decide) ?_
    exact hk5 _ _ _ hf H locs ls (lv_sub hl [1, 2, 3, 4, 0] rfl) hH
  have B47 : ∀ (k5 : Int32 → Int32 → Hp → Option (Int32 × Hp)) (hk5 : ∀ (x3 : Int32) (x4 : Int32) (h : Hp), k5 x3 x4 h = some (r0, h0) → BK p l e ({ frames := 4, cells := 0, slots := 0, locals := 100 }) s m args below meth c (MQ below (cQi X r0 h0) args s 0 0 (AD X)) X 8 5 [(0, .ref (X.2.2.2 a0)), (1, .ref (X.2.2.2 a1)), (2, .int a2), (3, .int x3), (4, .int x4)] [] h) (k47 : Int32 → Int32 → Int32 → Int32 → Int32 → Hp → Option (Int32 × Hp)) (hk47 : ∀ (x3 : Int32) (x4 : Int32) (x5 : Int32) (x6 : Int32) (x7 : Int32) (h : Hp), k47 x3 x4 x5 x6 x7 h = some (r0, h0) → BK p l e ({ frames := 4, cells := 0, slots := 0, locals := 100 }) s m args below meth c (MQ below (cQi X r0 h0) args s 0 0 (AD X)) X 8 47 [(0, .ref (X.2.2.2 a0)), (1, .ref (X.2.2.2 a1)), (2, .int a2), (3, .int x3), (4, .int x4), (5, .int x5), (6, .int x6), (7, .int x7)] [] h) (x3 : Int32) (x4 : Int32) (x5 : Int32) (x6 : Int32) (x7 : Int32) (h : Hp), g_X7_unlike_47 a0 a1 a2 k5 k47 x3 x4 x5 x6 x7 h = some (r0, h0) → BK p l e ({ frames := 4, cells := 0, slots := 0, locals := 100 }) s m args below meth c (MQ below (cQi X r0 h0) args s 0 0 (AD X)) X 8 47 [(0, .ref (X.2.2.2 a0)), (1, .ref (X.2.2.2 a1)), (2, .int a2), (3, .int x3), (4, .int x4), (5, .int x5), (6, .int x6), (7, .int x7)] [] h := by
    intro k5 hk5 k47 hk47 x3 x4 x5 x6 x7 h hf H locs ls hl hH
    unfold g_X7_unlike_47 at hf
    refine lv_iload hx hb dX7_unlike_47 (lv_at hl 7 rfl) ?_
    refine lv_iload_n hx hb dX7_unlike_49 rfl (lv_at hl 3 rfl) ?_
    refine lv_icmp_ge (tgt := 83) hx hb dX7_unlike_50 (by decide) (fun c1 => ?_) (fun c1 => ?_)
    · replace hf := ite_t c1 hf
      refine lv_iload hx hb dX7_unlike_83 (lv_at hl 6 rfl) ?_
      refine lv_if_ne (tgt := 99) hx hb dX7_unlike_85 (by decide) (fun c2 => ?_) (fun c2 => ?_)
      · replace hf := ite_f c2 hf
        exact B99 k5 hk5 _ _ _ hf H locs ls (lv_sub hl [0, 1, 2, 3, 4] rfl) hH
      · replace hf := ite_t c2 hf
        refine lv_aload_n hx hb dX7_unlike_88 rfl (lv_at hl 0 rfl) ?_
        refine wk_getr (ci := 6) (k := 28) S hK hH j_X7 t0 rfl hq_6_28 (hts _ (wU_in _ m_652)) dX7_unlike_89 ?_
        refine lv_iload_n hx hb dX7_unlike_92 rfl (lv_at hl 3 rfl) ?_
        refine lv_iload hx hb dX7_unlike_93 (lv_at hl 5 rfl) ?_
        obtain ⟨o3, hf⟩ := ite_ok hf
        refine wk_iast S hK hH (tr_6_28 t0) o3 dX7_unlike_95 (fun H locs hH => ?_)
        refine lv_iinc (v := (x3 + (1 : Int32))) (lv' := [(3, .int ((x3 + (1 : Int32)))), (0, .ref (X.2.2.2 a0)), (1, .ref (X.2.2.2 a1)), (2, .int a2), (4, .int x4), (5, .int x5), (6, .int x6), (7, .int x7)]) hx hb dX7_unlike_96 hl (k := 3) rfl rfl (by decide) rfl (fun ls hl => ?_)
        exact B99 k5 hk5 _ _ _ hf H locs ls (lv_sub hl [1, 2, 3, 0, 4] rfl) hH
    · replace hf := ite_f c1 hf
      refine lv_iload hx hb dX7_unlike_53 (lv_at hl 6 rfl) ?_
      refine lv_if_ne (tgt := 70) hx hb dX7_unlike_55 (by decide) (fun c4 => ?_) (fun c4 => ?_)
      · replace hf := ite_f c4 hf
        exact B70 k5 hk5 k47 hk47 _ _ _ _ _ hf H locs ls (lv_sub hl [0, 1, 2, 3, 4, 5, 7] rfl) hH
      · replace hf := ite_t c4 hf
        refine lv_aload_n hx hb dX7_unlike_58 rfl (lv_at hl 0 rfl) ?_
        refine wk_getr (ci := 6) (k := 28) S hK hH j_X7 t0 rfl hq_6_28 (hts _ (wU_in _ m_652)) dX7_unlike_59 ?_
        refine lv_iload hx hb dX7_unlike_62 (lv_at hl 7 rfl) ?_
        obtain ⟨o5, hf⟩ := ite_ok hf
        refine wk_iald S hK hH (tr_6_28 t0) o5 dX7_unlike_64 ?_
        refine lv_iload hx hb dX7_unlike_65 (lv_at hl 5 rfl) ?_
        refine lv_icmp_ne (tgt := 74) hx hb dX7_unlike_67 (by decide) (fun c6 => ?_) (fun c6 => ?_)
        · replace hf := ite_f c6 hf
          refine lv_iconst (v := 0) hx hb dX7_unlike_74 (by decide) ?_
          exact B75 k5 hk5 k47 hk47 _ _ _ _ _ _ hf H locs ls (lv_sub hl [0, 1, 2, 3, 4, 5, 7] rfl) hH
        · replace hf := ite_t c6 hf
          exact B70 k5 hk5 k47 hk47 _ _ _ _ _ hf H locs ls (lv_sub hl [0, 1, 2, 3, 4, 5, 7] rfl) hH
  have BL47 : ∀ (k5 : Int32 → Int32 → Hp → Option (Int32 × Hp)) (hk5 : ∀ (x3 : Int32) (x4 : Int32) (h : Hp), k5 x3 x4 h = some (r0, h0) → BK p l e ({ frames := 4, cells := 0, slots := 0, locals := 100 }) s m args below meth c (MQ below (cQi X r0 h0) args s 0 0 (AD X)) X 8 5 [(0, .ref (X.2.2.2 a0)), (1, .ref (X.2.2.2 a1)), (2, .int a2), (3, .int x3), (4, .int x4)] [] h) (n : Nat) (x3 : Int32) (x4 : Int32) (x5 : Int32) (x6 : Int32) (x7 : Int32) (h : Hp), f_X7_unlike_47 a0 a1 a2 k5 n x3 x4 x5 x6 x7 h = some (r0, h0) → BK p l e ({ frames := 4, cells := 0, slots := 0, locals := 100 }) s m args below meth c (MQ below (cQi X r0 h0) args s 0 0 (AD X)) X 8 47 [(0, .ref (X.2.2.2 a0)), (1, .ref (X.2.2.2 a1)), (2, .int a2), (3, .int x3), (4, .int x4), (5, .int x5), (6, .int x6), (7, .int x7)] [] h := by
    intro k5 hk5 n
    induction n with
    | zero => intro x3 x4 x5 x6 x7 h hf; cases hf
    | succ n ih => intro x3 x4 x5 x6 x7 h hf; exact B47 k5 hk5 _ ih _ _ _ _ _ _ hf
  have B5 : ∀ (k5 : Int32 → Int32 → Hp → Option (Int32 × Hp)) (hk5 : ∀ (x3 : Int32) (x4 : Int32) (h : Hp), k5 x3 x4 h = some (r0, h0) → BK p l e ({ frames := 4, cells := 0, slots := 0, locals := 100 }) s m args below meth c (MQ below (cQi X r0 h0) args s 0 0 (AD X)) X 8 5 [(0, .ref (X.2.2.2 a0)), (1, .ref (X.2.2.2 a1)), (2, .int a2), (3, .int x3), (4, .int x4)] [] h) (x3 : Int32) (x4 : Int32) (h : Hp), g_X7_unlike_5 a0 a1 a2 k5 x3 x4 h = some (r0, h0) → BK p l e ({ frames := 4, cells := 0, slots := 0, locals := 100 }) s m args below meth c (MQ below (cQi X r0 h0) args s 0 0 (AD X)) X 8 5 [(0, .ref (X.2.2.2 a0)), (1, .ref (X.2.2.2 a1)), (2, .int a2), (3, .int x3), (4, .int x4)] [] h := by
    intro k5 hk5 x3 x4 h hf H locs ls hl hH
    unfold g_X7_unlike_5 at hf
    refine lv_iload hx hb dX7_unlike_5 (lv_at hl 4 rfl) ?_
    refine lv_aload_n hx hb dX7_unlike_7 rfl (lv_at hl 0 rfl) ?_
    refine wk_geti (ci := 6) (k := 11) S hK hH j_X7 t0 rfl hq_6_11 (hts _ (wU_in _ m_635)) dX7_unlike_8 ?_
    refine lv_aload_n hx hb dX7_unlike_11 rfl (lv_at hl 0 rfl) ?_
    refine wk_geti (ci := 6) (k := 12) S hK hH j_X7 t0 rfl hq_6_12 (hts _ (wU_in _ m_636)) dX7_unlike_12 ?_
    refine lv_imul hx hb dX7_unlike_15 ?_
    refine lv_icmp_ge (tgt := 105) hx hb dX7_unlike_16 (by decide) (fun c7 => ?_) (fun c7 => ?_)
    · replace hf := ite_t c7 hf
      refine lv_iload_n hx hb dX7_unlike_105 rfl (lv_at hl 3 rfl) ?_
      exact wk_iret S hr hlk hK hN hH hf dX7_unlike_106
    · replace hf := ite_f c7 hf
      refine lv_aload_n hx hb dX7_unlike_19 rfl (lv_at hl 0 rfl) ?_
      refine lv_aload_n hx hb dX7_unlike_20 rfl (lv_at hl 1 rfl) ?_
      refine lv_iload hx hb dX7_unlike_21 (lv_at hl 4 rfl) ?_
      refine lv_aload_n hx hb dX7_unlike_23 rfl (lv_at hl 0 rfl) ?_
      refine wk_geti (ci := 6) (k := 12) S hK hH j_X7 t0 rfl hq_6_12 (hts _ (wU_in _ m_636)) dX7_unlike_24 ?_
      obtain ⟨o8, hf⟩ := ite_no hf
      refine lv_idiv hx hb dX7_unlike_27 o8 ?_
      refine lv_iload hx hb dX7_unlike_28 (lv_at hl 4 rfl) ?_
      refine lv_aload_n hx hb dX7_unlike_30 rfl (lv_at hl 0 rfl) ?_
      refine wk_geti (ci := 6) (k := 12) S hK hH j_X7 t0 rfl hq_6_12 (hts _ (wU_in _ m_636)) dX7_unlike_31 ?_
      obtain ⟨o9, hf⟩ := ite_no hf
      refine lv_irem hx hb dX7_unlike_34 o9 ?_
      refine lv_iload_n hx hb dX7_unlike_35 rfl (lv_at hl 2 rfl) ?_
      obtain ⟨r12, h11, hq10, hf⟩ := bnd_ok hf
      refine wk_callVi (ci := 6) (b := a0) (As := [.ref (X.2.2.2 a1), .int ((x4 / (h.1 a0 12))), .int ((x4 - x4 / (h.1 a0 12) * (h.1 a0 12))), .int a2]) (rest := []) S hK hN hH t0 (by decide) rfl (C_X7_madeBy l X hI t0 t1 (x4 / (h.1 a0 12)) (x4 - x4 / (h.1 a0 12) * (h.1 a0 12)) a2 _ _ _ hq10) (cwV 4 hts (gV wU_in m_773 m_775 m_18 m_41 m_776) rfl rfl rfl hdV_X7_madeBy ⟨Nat.le_of_ble_eq_true rfl, Nat.le_of_ble_eq_true rfl⟩) hl.1 rfl rfl (Nat.le_of_ble_eq_true rfl) dX7_unlike_36 ⟨Nat.zero_le _, Nat.zero_le _⟩ (fun H locs hH => ?_)
      refine lv_istore (lv' := [(5, .int r12), (0, .ref (X.2.2.2 a0)), (1, .ref (X.2.2.2 a1)), (2, .int a2), (3, .int x3), (4, .int x4)]) hx hb dX7_unlike_39 hl (by decide) rfl (fun ls hl => ?_)
      refine lv_iconst (v := 0) hx hb dX7_unlike_41 (by decide) ?_
      refine lv_istore (lv' := [(6, .int ((0 : Int32))), (5, .int r12), (0, .ref (X.2.2.2 a0)), (1, .ref (X.2.2.2 a1)), (2, .int a2), (3, .int x3), (4, .int x4)]) hx hb dX7_unlike_42 hl (by decide) rfl (fun ls hl => ?_)
      refine lv_iconst (v := 0) hx hb dX7_unlike_44 (by decide) ?_
      refine lv_istore (lv' := [(7, .int ((0 : Int32))), (6, .int ((0 : Int32))), (5, .int r12), (0, .ref (X.2.2.2 a0)), (1, .ref (X.2.2.2 a1)), (2, .int a2), (3, .int x3), (4, .int x4)]) hx hb dX7_unlike_45 hl (by decide) rfl (fun ls hl => ?_)
      exact BL47 k5 hk5 FU _ _ _ _ _ _ hf H locs ls (lv_sub hl [3, 4, 5, 6, 7, 2, 1, 0] rfl) hH
  have BL5 : ∀ (n : Nat) (x3 : Int32) (x4 : Int32) (h : Hp), f_X7_unlike_5 a0 a1 a2 n x3 x4 h = some (r0, h0) → BK p l e ({ frames := 4, cells := 0, slots := 0, locals := 100 }) s m args below meth c (MQ below (cQi X r0 h0) args s 0 0 (AD X)) X 8 5 [(0, .ref (X.2.2.2 a0)), (1, .ref (X.2.2.2 a1)), (2, .int a2), (3, .int x3), (4, .int x4)] [] h := by
    intro n
    induction n with
    | zero => intro x3 x4 h hf; cases hf
    | succ n ih => intro x3 x4 h hf; exact B5 _ ih _ _ _ hf
  intro H locs ls hl hH
  replace hl : lv_has ls 8 [(0, .ref (X.2.2.2 a0)), (1, .ref (X.2.2.2 a1)), (2, .int a2)] := hl
  unfold f_X7_unlike at hf
  refine lv_iconst (v := 0) hx hb dX7_unlike_0 (by decide) ?_
  refine lv_istore_n (lv' := [(3, .int ((0 : Int32))), (0, .ref (X.2.2.2 a0)), (1, .ref (X.2.2.2 a1)), (2, .int a2)]) hx hb dX7_unlike_1 rfl hl (by decide) rfl (fun ls hl => ?_)
  refine lv_iconst (v := 0) hx hb dX7_unlike_2 (by decide) ?_
  refine lv_istore (lv' := [(4, .int ((0 : Int32))), (3, .int ((0 : Int32))), (0, .ref (X.2.2.2 a0)), (1, .ref (X.2.2.2 a1)), (2, .int a2)]) hx hb dX7_unlike_3 hl (by decide) rfl (fun ls hl => ?_)
  exact BL5 FU _ _ _ hf H locs ls (lv_sub hl [2, 3, 4, 1, 0] rfl) hH
set_option maxHeartbeats 4000000 in
set_option maxRecDepth 100000 in
theorem C_X7_active (l : Launch) (X : Cx) (hI : Inj X) {a0 : Nat} (t0 : tY a0 = 6) {a1 : Nat} (t1 : tY a1 = 100) (h : Hp) (r0 : Int32) (h0 : Hp) (hf : f_X7_active a0 a1 h = some (r0, h0)) : Mi l X yX7_active cX7_active 7 (some .int) 3 66 h [.ref (X.2.2.2 a0), .ref (X.2.2.2 a1)] r0 h0 := by
  refine BD_of (own := RX7) hI rfl (by decide) (Nat.le_of_ble_eq_true rfl) ?_
  intro p e s m args below meth c S hr hlk hK hN
  obtain ⟨hx, hb, hml, hown, hts⟩ := id S
  have B77 : ∀ (k4 : Int32 → Int32 → Hp → Option (Int32 × Hp)) (hk4 : ∀ (x2 : Int32) (x3 : Int32) (h : Hp), k4 x2 x3 h = some (r0, h0) → BK p l e ({ frames := 3, cells := 0, slots := 0, locals := 66 }) s m args below meth c (MQ below (cQi X r0 h0) args s 0 0 (AD X)) X 7 4 [(0, .ref (X.2.2.2 a0)), (1, .ref (X.2.2.2 a1)), (2, .int x2), (3, .int x3)] [] h) (k38 : Int32 → Int32 → Int32 → Int32 → Hp → Option (Int32 × Hp)) (hk38 : ∀ (x2 : Int32) (x3 : Int32) (x4 : Int32) (x5 : Int32) (h : Hp), k38 x2 x3 x4 x5 h = some (r0, h0) → BK p l e ({ frames := 3, cells := 0, slots := 0, locals := 66 }) s m args below meth c (MQ below (cQi X r0 h0) args s 0 0 (AD X)) X 7 38 [(0, .ref (X.2.2.2 a0)), (1, .ref (X.2.2.2 a1)), (2, .int x2), (3, .int x3), (4, .int x4), (5, .int x5)] [] h) (x3 : Int32) (x5 : Int32) (x6 : Int32) (z0 : Int32) (z1 : Int32) (h : Hp), g_X7_active_77 a0 a1 k4 k38 x3 x5 x6 z0 z1 h = some (r0, h0) → BK p l e ({ frames := 3, cells := 0, slots := 0, locals := 66 }) s m args below meth c (MQ below (cQi X r0 h0) args s 0 0 (AD X)) X 7 77 [(0, .ref (X.2.2.2 a0)), (1, .ref (X.2.2.2 a1)), (3, .int x3), (5, .int x5), (6, .int x6)] [.int z1, .int z0] h := by
    intro k4 hk4 k38 hk38 x3 x5 x6 z0 z1 h hf H locs ls hl hH
    unfold g_X7_active_77 at hf
    refine lv_ior hx hb dX7_active_77 ?_
    refine lv_istore_n (lv' := [(2, .int ((z0 ||| z1))), (0, .ref (X.2.2.2 a0)), (1, .ref (X.2.2.2 a1)), (3, .int x3), (5, .int x5), (6, .int x6)]) hx hb dX7_active_78 rfl hl (by decide) rfl (fun ls hl => ?_)
    refine lv_iload hx hb dX7_active_79 (lv_at hl 5 rfl) ?_
    refine lv_istore (lv' := [(4, .int x6), (2, .int ((z0 ||| z1))), (0, .ref (X.2.2.2 a0)), (1, .ref (X.2.2.2 a1)), (3, .int x3), (5, .int x5), (6, .int x6)]) hx hb dX7_active_81 hl (by decide) rfl (fun ls hl => ?_)
    refine lv_iinc (v := (x5 + (1 : Int32))) (lv' := [(5, .int ((x5 + (1 : Int32)))), (4, .int x6), (2, .int ((z0 ||| z1))), (0, .ref (X.2.2.2 a0)), (1, .ref (X.2.2.2 a1)), (3, .int x3), (6, .int x6)]) hx hb dX7_active_83 hl (k := 5) rfl rfl (by decide) rfl (fun ls hl => ?_)
    refine lv_goto (tgt := 38) hx hb dX7_active_86 (by decide) ?_
    exact hk38 _ _ _ _ _ hf H locs ls (lv_sub hl [3, 4, 2, 5, 1, 0] rfl) hH
  have B38 : ∀ (k4 : Int32 → Int32 → Hp → Option (Int32 × Hp)) (hk4 : ∀ (x2 : Int32) (x3 : Int32) (h : Hp), k4 x2 x3 h = some (r0, h0) → BK p l e ({ frames := 3, cells := 0, slots := 0, locals := 66 }) s m args below meth c (MQ below (cQi X r0 h0) args s 0 0 (AD X)) X 7 4 [(0, .ref (X.2.2.2 a0)), (1, .ref (X.2.2.2 a1)), (2, .int x2), (3, .int x3)] [] h) (k38 : Int32 → Int32 → Int32 → Int32 → Hp → Option (Int32 × Hp)) (hk38 : ∀ (x2 : Int32) (x3 : Int32) (x4 : Int32) (x5 : Int32) (h : Hp), k38 x2 x3 x4 x5 h = some (r0, h0) → BK p l e ({ frames := 3, cells := 0, slots := 0, locals := 66 }) s m args below meth c (MQ below (cQi X r0 h0) args s 0 0 (AD X)) X 7 38 [(0, .ref (X.2.2.2 a0)), (1, .ref (X.2.2.2 a1)), (2, .int x2), (3, .int x3), (4, .int x4), (5, .int x5)] [] h) (x2 : Int32) (x3 : Int32) (x4 : Int32) (x5 : Int32) (h : Hp), g_X7_active_38 a0 a1 k4 k38 x2 x3 x4 x5 h = some (r0, h0) → BK p l e ({ frames := 3, cells := 0, slots := 0, locals := 66 }) s m args below meth c (MQ below (cQi X r0 h0) args s 0 0 (AD X)) X 7 38 [(0, .ref (X.2.2.2 a0)), (1, .ref (X.2.2.2 a1)), (2, .int x2), (3, .int x3), (4, .int x4), (5, .int x5)] [] h := by
    intro k4 hk4 k38 hk38 x2 x3 x4 x5 h hf H locs ls hl hH
    unfold g_X7_active_38 at hf
    refine lv_iload hx hb dX7_active_38 (lv_at hl 5 rfl) ?_
    refine lv_aload_n hx hb dX7_active_40 rfl (lv_at hl 0 rfl) ?_
    refine wk_geti (ci := 6) (k := 13) S hK hH j_X7 t0 rfl hq_6_13 (hts _ (wU_in _ m_637)) dX7_active_41 ?_
    refine lv_icmp_ge (tgt := 89) hx hb dX7_active_44 (by decide) (fun c1 => ?_) (fun c1 => ?_)
    · replace hf := ite_t c1 hf
      refine lv_iinc (v := (x3 + (1 : Int32))) (lv' := [(3, .int ((x3 + (1 : Int32)))), (0, .ref (X.2.2.2 a0)), (1, .ref (X.2.2.2 a1)), (2, .int x2), (4, .int x4), (5, .int x5)]) hx hb dX7_active_89 hl (k := 3) rfl rfl (by decide) rfl (fun ls hl => ?_)
      refine lv_goto (tgt := 4) hx hb dX7_active_92 (by decide) ?_
      exact hk4 _ _ _ hf H locs ls (lv_sub hl [1, 2, 3, 0] rfl) hH
    · replace hf := ite_f c1 hf
      refine lv_aload_n hx hb dX7_active_47 rfl (lv_at hl 1 rfl) ?_
      refine lv_aload_n hx hb dX7_active_48 rfl (lv_at hl 1 rfl) ?_
      refine lv_iload hx hb dX7_active_49 (lv_at hl 5 rfl) ?_
      obtain ⟨o2, hf⟩ := ite_ok hf
      refine wk_iald S hK hH t1 o2 dX7_active_51 ?_
      refine lv_iload hx hb dX7_active_52 (lv_at hl 4 rfl) ?_
      obtain ⟨r5, h4, hq3, hf⟩ := bnd_ok hf
      refine wk_callSi (As := [.ref (X.2.2.2 a1), .int ((h.1 a1 (x5).toNatClampNeg)), .int x4]) (rest := []) S hK hN hH (C_X7_changed l X hI t1 (h.1 a1 (x5).toNatClampNeg) x4 _ _ _ hq3) (va_cwS 3 hts (gS wU_in m_796 m_797 m_41 m_798) rfl rfl rfl hdS_X7_changed ⟨Nat.le_of_ble_eq_true rfl, Nat.le_of_ble_eq_true rfl⟩) hl.1 rfl rfl (Nat.le_of_ble_eq_true rfl) dX7_active_54 ⟨Nat.zero_le _, Nat.zero_le _⟩ (fun H locs hH => ?_)
      refine lv_istore (lv' := [(6, .int r5), (0, .ref (X.2.2.2 a0)), (1, .ref (X.2.2.2 a1)), (2, .int x2), (3, .int x3), (4, .int x4), (5, .int x5)]) hx hb dX7_active_57 hl (by decide) rfl (fun ls hl => ?_)
      refine lv_iload_n hx hb dX7_active_59 rfl (lv_at hl 3 rfl) ?_
      refine lv_iload hx hb dX7_active_60 (lv_at hl 0 rfl) ?_
      refine lv_iload hx hb dX7_active_62 (lv_at hl 5 rfl) ?_
      refine lv_icmp_ne (tgt := 71) hx hb dX7_active_64 (by decide) (fun c6 => ?_) (fun c6 => ?_)
      · replace hf := ite_f c6 hf
        refine lv_iconst (v := 1) hx hb dX7_active_71 (by decide) ?_
        refine lv_aload_n hx hb dX7_active_72 rfl (lv_at hl 2 rfl) ?_
        refine lv_iload hx hb dX7_active_73 (lv_at hl 6 rfl) ?_
        obtain ⟨o7, hf⟩ := ite_ok hf
        refine wk_iald S hK hH t1 o7 dX7_active_75 ?_
        refine lv_ishl hx hb dX7_active_76 ?_
        exact B77 k4 hk4 k38 hk38 _ _ _ _ _ _ hf H locs ls (lv_sub hl [1, 2, 4, 6, 0] rfl) hH
      · replace hf := ite_t c6 hf
        refine lv_iconst (v := 0) hx hb dX7_active_67 (by decide) ?_
        refine lv_goto (tgt := 77) hx hb dX7_active_68 (by decide) ?_
        exact B77 k4 hk4 k38 hk38 _ _ _ _ _ _ hf H locs ls (lv_sub hl [1, 2, 4, 6, 0] rfl) hH
  have BL38 : ∀ (k4 : Int32 → Int32 → Hp → Option (Int32 × Hp)) (hk4 : ∀ (x2 : Int32) (x3 : Int32) (h : Hp), k4 x2 x3 h = some (r0, h0) → BK p l e ({ frames := 3, cells := 0, slots := 0, locals := 66 }) s m args below meth c (MQ below (cQi X r0 h0) args s 0 0 (AD X)) X 7 4 [(0, .ref (X.2.2.2 a0)), (1, .ref (X.2.2.2 a1)), (2, .int x2), (3, .int x3)] [] h) (n : Nat) (x2 : Int32) (x3 : Int32) (x4 : Int32) (x5 : Int32) (h : Hp), f_X7_active_38 a0 a1 k4 n x2 x3 x4 x5 h = some (r0, h0) → BK p l e ({ frames := 3, cells := 0, slots := 0, locals := 66 }) s m args below meth c (MQ below (cQi X r0 h0) args s 0 0 (AD X)) X 7 38 [(0, .ref (X.2.2.2 a0)), (1, .ref (X.2.2.2 a1)), (2, .int x2), (3, .int x3), (4, .int x4), (5, .int x5)] [] h := by
    intro k4 hk4 n
    induction n with
    | zero => intro x2 x3 x4 x5 h hf; cases hf
    | succ n ih => intro x2 x3 x4 x5 h hf; exact B38 k4 hk4 _ ih _ _ _ _ _ hf
  have B4 : ∀ (k4 : Int32 → Int32 → Hp → Option (Int32 × Hp)) (hk4 : ∀ (x2 : Int32) (x3 : Int32) (h : Hp), k4 x2 x3 h = some (r0, h0) → BK p l e ({ frames := 3, cells := 0, slots := 0, locals := 66 }) s m args below meth c (MQ below (cQi X r0 h0) args s 0 0 (AD X)) X 7 4 [(0, .ref (X.2.2.2 a0)), (1, .ref (X.2.2.2 a1)), (2, .int x2), (3, .int x3)] [] h) (x2 : Int32) (x3 : Int32) (h : Hp), g_X7_active_4 a0 a1 k4 x2 x3 h = some (r0, h0) → BK p l e ({ frames := 3, cells := 0, slots := 0, locals := 66 }) s m args below meth c (MQ below (cQi X r0 h0) args s 0 0 (AD X)) X 7 4 [(0, .ref (X.2.2.2 a0)), (1, .ref (X.2.2.2 a1)), (2, .int x2), (3, .int x3)] [] h := by
    intro k4 hk4 x2 x3 h hf H locs ls hl hH
    unfold g_X7_active_4 at hf
    refine lv_iload_n hx hb dX7_active_4 rfl (lv_at hl 3 rfl) ?_
    refine lv_aload_n hx hb dX7_active_5 rfl (lv_at hl 0 rfl) ?_
    refine wk_geti (ci := 6) (k := 11) S hK hH j_X7 t0 rfl hq_6_11 (hts _ (wU_in _ m_635)) dX7_active_6 ?_
    refine lv_aload_n hx hb dX7_active_9 rfl (lv_at hl 0 rfl) ?_
    refine wk_geti (ci := 6) (k := 12) S hK hH j_X7 t0 rfl hq_6_12 (hts _ (wU_in _ m_636)) dX7_active_10 ?_
    refine lv_imul hx hb dX7_active_13 ?_
    refine lv_icmp_ge (tgt := 95) hx hb dX7_active_14 (by decide) (fun c8 => ?_) (fun c8 => ?_)
    · replace hf := ite_t c8 hf
      refine lv_iload_n hx hb dX7_active_95 rfl (lv_at hl 2 rfl) ?_
      exact wk_iret S hr hlk hK hN hH hf dX7_active_96
    · replace hf := ite_f c8 hf
      refine lv_aload_n hx hb dX7_active_17 rfl (lv_at hl 0 rfl) ?_
      refine lv_iload_n hx hb dX7_active_18 rfl (lv_at hl 3 rfl) ?_
      refine lv_aload_n hx hb dX7_active_19 rfl (lv_at hl 0 rfl) ?_
      refine wk_geti (ci := 6) (k := 12) S hK hH j_X7 t0 rfl hq_6_12 (hts _ (wU_in _ m_636)) dX7_active_20 ?_
      obtain ⟨o9, hf⟩ := ite_no hf
      refine lv_idiv hx hb dX7_active_23 o9 ?_
      refine lv_iload_n hx hb dX7_active_24 rfl (lv_at hl 3 rfl) ?_
      refine lv_aload_n hx hb dX7_active_25 rfl (lv_at hl 0 rfl) ?_
      refine wk_geti (ci := 6) (k := 12) S hK hH j_X7 t0 rfl hq_6_12 (hts _ (wU_in _ m_636)) dX7_active_26 ?_
      obtain ⟨o10, hf⟩ := ite_no hf
      refine lv_irem hx hb dX7_active_29 o10 ?_
      obtain ⟨r13, h12, hq11, hf⟩ := bnd_ok hf
      refine wk_callVi (ci := 6) (b := a0) (As := [.int ((x3 / (h.1 a0 12))), .int ((x3 - x3 / (h.1 a0 12) * (h.1 a0 12)))]) (rest := []) S hK hN hH t0 (by decide) rfl (C_X7_raw l X hI t0 (x3 / (h.1 a0 12)) (x3 - x3 / (h.1 a0 12) * (h.1 a0 12)) _ _ _ hq11) (cwV 2 hts (gV wU_in m_777 m_779 m_19 m_41 m_780) rfl rfl rfl hdV_X7_raw ⟨Nat.le_of_ble_eq_true rfl, Nat.le_of_ble_eq_true rfl⟩) hl.1 rfl rfl (Nat.le_of_ble_eq_true rfl) dX7_active_30 ⟨Nat.zero_le _, Nat.zero_le _⟩ (fun H locs hH => ?_)
      refine lv_istore (lv' := [(4, .int r13), (0, .ref (X.2.2.2 a0)), (1, .ref (X.2.2.2 a1)), (2, .int x2), (3, .int x3)]) hx hb dX7_active_33 hl (by decide) rfl (fun ls hl => ?_)
      refine lv_iconst (v := 0) hx hb dX7_active_35 (by decide) ?_
      refine lv_istore (lv' := [(5, .int ((0 : Int32))), (4, .int r13), (0, .ref (X.2.2.2 a0)), (1, .ref (X.2.2.2 a1)), (2, .int x2), (3, .int x3)]) hx hb dX7_active_36 hl (by decide) rfl (fun ls hl => ?_)
      exact BL38 k4 hk4 FU _ _ _ _ _ hf H locs ls (lv_sub hl [2, 3, 4, 5, 1, 0] rfl) hH
  have BL4 : ∀ (n : Nat) (x2 : Int32) (x3 : Int32) (h : Hp), f_X7_active_4 a0 a1 n x2 x3 h = some (r0, h0) → BK p l e ({ frames := 3, cells := 0, slots := 0, locals := 66 }) s m args below meth c (MQ below (cQi X r0 h0) args s 0 0 (AD X)) X 7 4 [(0, .ref (X.2.2.2 a0)), (1, .ref (X.2.2.2 a1)), (2, .int x2), (3, .int x3)] [] h := by
    intro n
    induction n with
    | zero => intro x2 x3 h hf; cases hf
    | succ n ih => intro x2 x3 h hf; exact B4 _ ih _ _ _ hf
  intro H locs ls hl hH
  replace hl : lv_has ls 7 [(0, .ref (X.2.2.2 a0)), (1, .ref (X.2.2.2 a1))] := hl
  unfold f_X7_active at hf
  refine lv_iconst (v := 0) hx hb dX7_active_0 (by decide) ?_
  refine lv_istore_n (lv' := [(2, .int ((0 : Int32))), (0, .ref (X.2.2.2 a0)), (1, .ref (X.2.2.2 a1))]) hx hb dX7_active_1 rfl hl (by decide) rfl (fun ls hl => ?_)
  refine lv_iconst (v := 0) hx hb dX7_active_2 (by decide) ?_
  refine lv_istore_n (lv' := [(3, .int ((0 : Int32))), (2, .int ((0 : Int32))), (0, .ref (X.2.2.2 a0)), (1, .ref (X.2.2.2 a1))]) hx hb dX7_active_3 rfl hl (by decide) rfl (fun ls hl => ?_)
  exact BL4 FU _ _ _ hf H locs ls (lv_sub hl [2, 3, 1, 0] rfl) hH
set_option maxHeartbeats 4000000 in
set_option maxRecDepth 100000 in
theorem C_X7_exceptions (l : Launch) (X : Cx) (hI : Inj X) {a0 : Nat} (t0 : tY a0 = 6) {a1 : Nat} (t1 : tY a1 = 100) (h : Hp) (r0 : Int32) (h0 : Hp) (hf : f_X7_exceptions a0 a1 h = some (r0, h0)) : Mi l X yX7_exceptions cX7_exceptions 6 (some .int) 4 100 h [.ref (X.2.2.2 a0), .ref (X.2.2.2 a1)] r0 h0 := by
  refine BD_of (own := RX7) hI rfl (by decide) (Nat.le_of_ble_eq_true rfl) ?_
  intro p e s m args below meth c S hr hlk hK hN
  obtain ⟨hx, hb, hml, hown, hts⟩ := id S
  have B65 : ∀ (k4 : Int32 → Int32 → Hp → Option (Int32 × Hp)) (hk4 : ∀ (x2 : Int32) (x3 : Int32) (h : Hp), k4 x2 x3 h = some (r0, h0) → BK p l e ({ frames := 4, cells := 0, slots := 0, locals := 100 }) s m args below meth c (MQ below (cQi X r0 h0) args s 0 0 (AD X)) X 6 4 [(0, .ref (X.2.2.2 a0)), (1, .ref (X.2.2.2 a1)), (2, .int x2), (3, .int x3)] [] h) (k15 : Int32 → Int32 → Int32 → Hp → Option (Int32 × Hp)) (hk15 : ∀ (x2 : Int32) (x3 : Int32) (x4 : Int32) (h : Hp), k15 x2 x3 x4 h = some (r0, h0) → BK p l e ({ frames := 4, cells := 0, slots := 0, locals := 100 }) s m args below meth c (MQ below (cQi X r0 h0) args s 0 0 (AD X)) X 6 15 [(0, .ref (X.2.2.2 a0)), (1, .ref (X.2.2.2 a1)), (2, .int x2), (3, .int x3), (4, .int x4)] [] h) (x3 : Int32) (x4 : Int32) (z0 : Int32) (z1 : Int32) (h : Hp), g_X7_exceptions_65 a0 a1 k4 k15 x3 x4 z0 z1 h = some (r0, h0) → BK p l e ({ frames := 4, cells := 0, slots := 0, locals := 100 }) s m args below meth c (MQ below (cQi X r0 h0) args s 0 0 (AD X)) X 6 65 [(0, .ref (X.2.2.2 a0)), (1, .ref (X.2.2.2 a1)), (3, .int x3), (4, .int x4)] [.int z1, .int z0] h := by
    intro k4 hk4 k15 hk15 x3 x4 z0 z1 h hf H locs ls hl hH
    unfold g_X7_exceptions_65 at hf
    refine lv_iadd hx hb dX7_exceptions_65 ?_
    refine lv_istore_n (lv' := [(2, .int ((z0 + z1))), (0, .ref (X.2.2.2 a0)), (1, .ref (X.2.2.2 a1)), (3, .int x3), (4, .int x4)]) hx hb dX7_exceptions_66 rfl hl (by decide) rfl (fun ls hl => ?_)
    refine lv_iinc (v := (x4 + (1 : Int32))) (lv' := [(4, .int ((x4 + (1 : Int32)))), (2, .int ((z0 + z1))), (0, .ref (X.2.2.2 a0)), (1, .ref (X.2.2.2 a1)), (3, .int x3)]) hx hb dX7_exceptions_67 hl (k := 4) rfl rfl (by decide) rfl (fun ls hl => ?_)
    refine lv_goto (tgt := 15) hx hb dX7_exceptions_70 (by decide) ?_
    exact hk15 _ _ _ _ hf H locs ls (lv_sub hl [2, 3, 1, 4, 0] rfl) hH
  have B64 : ∀ (k4 : Int32 → Int32 → Hp → Option (Int32 × Hp)) (hk4 : ∀ (x2 : Int32) (x3 : Int32) (h : Hp), k4 x2 x3 h = some (r0, h0) → BK p l e ({ frames := 4, cells := 0, slots := 0, locals := 100 }) s m args below meth c (MQ below (cQi X r0 h0) args s 0 0 (AD X)) X 6 4 [(0, .ref (X.2.2.2 a0)), (1, .ref (X.2.2.2 a1)), (2, .int x2), (3, .int x3)] [] h) (k15 : Int32 → Int32 → Int32 → Hp → Option (Int32 × Hp)) (hk15 : ∀ (x2 : Int32) (x3 : Int32) (x4 : Int32) (h : Hp), k15 x2 x3 x4 h = some (r0, h0) → BK p l e ({ frames := 4, cells := 0, slots := 0, locals := 100 }) s m args below meth c (MQ below (cQi X r0 h0) args s 0 0 (AD X)) X 6 15 [(0, .ref (X.2.2.2 a0)), (1, .ref (X.2.2.2 a1)), (2, .int x2), (3, .int x3), (4, .int x4)] [] h) (x3 : Int32) (x4 : Int32) (z0 : Int32) (h : Hp), g_X7_exceptions_64 a0 a1 k4 k15 x3 x4 z0 h = some (r0, h0) → BK p l e ({ frames := 4, cells := 0, slots := 0, locals := 100 }) s m args below meth c (MQ below (cQi X r0 h0) args s 0 0 (AD X)) X 6 64 [(0, .ref (X.2.2.2 a0)), (1, .ref (X.2.2.2 a1)), (3, .int x3), (4, .int x4)] [.int z0] h := by
    intro k4 hk4 k15 hk15 x3 x4 z0 h hf H locs ls hl hH
    unfold g_X7_exceptions_64 at hf
    refine lv_iconst (v := 0) hx hb dX7_exceptions_64 (by decide) ?_
    exact B65 k4 hk4 k15 hk15 _ _ _ _ _ hf H locs ls (lv_sub hl [0, 1, 2, 3] rfl) hH
  have B15 : ∀ (k4 : Int32 → Int32 → Hp → Option (Int32 × Hp)) (hk4 : ∀ (x2 : Int32) (x3 : Int32) (h : Hp), k4 x2 x3 h = some (r0, h0) → BK p l e ({ frames := 4, cells := 0, slots := 0, locals := 100 }) s m args below meth c (MQ below (cQi X r0 h0) args s 0 0 (AD X)) X 6 4 [(0, .ref (X.2.2.2 a0)), (1, .ref (X.2.2.2 a1)), (2, .int x2), (3, .int x3)] [] h) (k15 : Int32 → Int32 → Int32 → Hp → Option (Int32 × Hp)) (hk15 : ∀ (x2 : Int32) (x3 : Int32) (x4 : Int32) (h : Hp), k15 x2 x3 x4 h = some (r0, h0) → BK p l e ({ frames := 4, cells := 0, slots := 0, locals := 100 }) s m args below meth c (MQ below (cQi X r0 h0) args s 0 0 (AD X)) X 6 15 [(0, .ref (X.2.2.2 a0)), (1, .ref (X.2.2.2 a1)), (2, .int x2), (3, .int x3), (4, .int x4)] [] h) (x2 : Int32) (x3 : Int32) (x4 : Int32) (h : Hp), g_X7_exceptions_15 a0 a1 k4 k15 x2 x3 x4 h = some (r0, h0) → BK p l e ({ frames := 4, cells := 0, slots := 0, locals := 100 }) s m args below meth c (MQ below (cQi X r0 h0) args s 0 0 (AD X)) X 6 15 [(0, .ref (X.2.2.2 a0)), (1, .ref (X.2.2.2 a1)), (2, .int x2), (3, .int x3), (4, .int x4)] [] h := by
    intro k4 hk4 k15 hk15 x2 x3 x4 h hf H locs ls hl hH
    unfold g_X7_exceptions_15 at hf
    refine lv_iload hx hb dX7_exceptions_15 (lv_at hl 4 rfl) ?_
    refine lv_aload_n hx hb dX7_exceptions_17 rfl (lv_at hl 0 rfl) ?_
    refine wk_geti (ci := 6) (k := 12) S hK hH j_X7 t0 rfl hq_6_12 (hts _ (wU_in _ m_636)) dX7_exceptions_18 ?_
    refine lv_icmp_ge (tgt := 73) hx hb dX7_exceptions_21 (by decide) (fun c1 => ?_) (fun c1 => ?_)
    · replace hf := ite_t c1 hf
      refine lv_iinc (v := (x3 + (1 : Int32))) (lv' := [(3, .int ((x3 + (1 : Int32)))), (0, .ref (X.2.2.2 a0)), (1, .ref (X.2.2.2 a1)), (2, .int x2), (4, .int x4)]) hx hb dX7_exceptions_73 hl (k := 3) rfl rfl (by decide) rfl (fun ls hl => ?_)
      refine lv_goto (tgt := 4) hx hb dX7_exceptions_76 (by decide) ?_
      exact hk4 _ _ _ hf H locs ls (lv_sub hl [1, 2, 3, 0] rfl) hH
    · replace hf := ite_f c1 hf
      refine lv_aload_n hx hb dX7_exceptions_24 rfl (lv_at hl 1 rfl) ?_
      refine lv_bipush (v := 20) hx hb dX7_exceptions_25 (by decide) ?_
      refine lv_iconst (v := 3) hx hb dX7_exceptions_27 (by decide) ?_
      refine lv_iload_n hx hb dX7_exceptions_28 rfl (lv_at hl 3 rfl) ?_
      refine lv_imul hx hb dX7_exceptions_29 ?_
      refine lv_iadd hx hb dX7_exceptions_30 ?_
      refine lv_iload hx hb dX7_exceptions_31 (lv_at hl 4 rfl) ?_
      refine lv_iadd hx hb dX7_exceptions_33 ?_
      obtain ⟨o2, hf⟩ := ite_ok hf
      refine wk_iald S hK hH t1 o2 dX7_exceptions_34 ?_
      refine lv_istore (lv' := [(5, .int ((h.1 a1 ((((20 : Int32) + ((3 : Int32) * x3)) + x4)).toNatClampNeg))), (0, .ref (X.2.2.2 a0)), (1, .ref (X.2.2.2 a1)), (2, .int x2), (3, .int x3), (4, .int x4)]) hx hb dX7_exceptions_35 hl (by decide) rfl (fun ls hl => ?_)
      refine lv_iload_n hx hb dX7_exceptions_37 rfl (lv_at hl 3 rfl) ?_
      refine lv_iload hx hb dX7_exceptions_38 (lv_at hl 0 rfl) ?_
      refine lv_bipush (v := (-9)) hx hb dX7_exceptions_40 (by decide) ?_
      refine lv_icmp_eq (tgt := 64) hx hb dX7_exceptions_42 (by decide) (fun c3 => ?_) (fun c3 => ?_)
      · replace hf := ite_t c3 hf
        exact B64 k4 hk4 k15 hk15 _ _ _ _ hf H locs ls (lv_sub hl [1, 2, 4, 5] rfl) hH
      · replace hf := ite_f c3 hf
        refine lv_iload hx hb dX7_exceptions_45 (lv_at hl 0 rfl) ?_
        refine lv_aload_n hx hb dX7_exceptions_47 rfl (lv_at hl 1 rfl) ?_
        refine lv_aload_n hx hb dX7_exceptions_48 rfl (lv_at hl 2 rfl) ?_
        refine lv_iload_n hx hb dX7_exceptions_49 rfl (lv_at hl 4 rfl) ?_
        refine lv_iload hx hb dX7_exceptions_50 (lv_at hl 5 rfl) ?_
        refine lv_bipush (v := 15) hx hb dX7_exceptions_52 (by decide) ?_
        obtain ⟨r6, h5, hq4, hf⟩ := bnd_ok hf
        refine wk_callVi (ci := 6) (b := a0) (As := [.ref (X.2.2.2 a1), .int x3, .int x4, .int ((15 : Int32))]) (rest := [.int ((h.1 a1 ((((20 : Int32) + ((3 : Int32) * x3)) + x4)).toNatClampNeg)), .int x2]) S hK hN hH t0 (by decide) rfl (C_X7_madeBy l X hI t0 t1 x3 x4 (15 : Int32) _ _ _ hq4) (cwV 4 hts (gV wU_in m_773 m_775 m_18 m_41 m_776) rfl rfl rfl hdV_X7_madeBy ⟨Nat.le_of_ble_eq_true rfl, Nat.le_of_ble_eq_true rfl⟩) hl.1 rfl rfl (Nat.le_of_ble_eq_true rfl) dX7_exceptions_54 ⟨Nat.zero_le _, Nat.zero_le _⟩ (fun H locs hH => ?_)
        refine lv_icmp_eq (tgt := 64) hx hb dX7_exceptions_57 (by decide) (fun c7 => ?_) (fun c7 => ?_)
        · replace hf := ite_t c7 hf
          exact B64 k4 hk4 k15 hk15 _ _ _ _ hf H locs ls (lv_sub hl [1, 2, 4, 5] rfl) hH
        · replace hf := ite_f c7 hf
          refine lv_iconst (v := 1) hx hb dX7_exceptions_60 (by decide) ?_
          refine lv_goto (tgt := 65) hx hb dX7_exceptions_61 (by decide) ?_
          exact B65 k4 hk4 k15 hk15 _ _ _ _ _ hf H locs ls (lv_sub hl [1, 2, 4, 5] rfl) hH
  have BL15 : ∀ (k4 : Int32 → Int32 → Hp → Option (Int32 × Hp)) (hk4 : ∀ (x2 : Int32) (x3 : Int32) (h : Hp), k4 x2 x3 h = some (r0, h0) → BK p l e ({ frames := 4, cells := 0, slots := 0, locals := 100 }) s m args below meth c (MQ below (cQi X r0 h0) args s 0 0 (AD X)) X 6 4 [(0, .ref (X.2.2.2 a0)), (1, .ref (X.2.2.2 a1)), (2, .int x2), (3, .int x3)] [] h) (n : Nat) (x2 : Int32) (x3 : Int32) (x4 : Int32) (h : Hp), f_X7_exceptions_15 a0 a1 k4 n x2 x3 x4 h = some (r0, h0) → BK p l e ({ frames := 4, cells := 0, slots := 0, locals := 100 }) s m args below meth c (MQ below (cQi X r0 h0) args s 0 0 (AD X)) X 6 15 [(0, .ref (X.2.2.2 a0)), (1, .ref (X.2.2.2 a1)), (2, .int x2), (3, .int x3), (4, .int x4)] [] h := by
    intro k4 hk4 n
    induction n with
    | zero => intro x2 x3 x4 h hf; cases hf
    | succ n ih => intro x2 x3 x4 h hf; exact B15 k4 hk4 _ ih _ _ _ _ hf
  have B4 : ∀ (k4 : Int32 → Int32 → Hp → Option (Int32 × Hp)) (hk4 : ∀ (x2 : Int32) (x3 : Int32) (h : Hp), k4 x2 x3 h = some (r0, h0) → BK p l e ({ frames := 4, cells := 0, slots := 0, locals := 100 }) s m args below meth c (MQ below (cQi X r0 h0) args s 0 0 (AD X)) X 6 4 [(0, .ref (X.2.2.2 a0)), (1, .ref (X.2.2.2 a1)), (2, .int x2), (3, .int x3)] [] h) (x2 : Int32) (x3 : Int32) (h : Hp), g_X7_exceptions_4 a0 a1 k4 x2 x3 h = some (r0, h0) → BK p l e ({ frames := 4, cells := 0, slots := 0, locals := 100 }) s m args below meth c (MQ below (cQi X r0 h0) args s 0 0 (AD X)) X 6 4 [(0, .ref (X.2.2.2 a0)), (1, .ref (X.2.2.2 a1)), (2, .int x2), (3, .int x3)] [] h := by
    intro k4 hk4 x2 x3 h hf H locs ls hl hH
    unfold g_X7_exceptions_4 at hf
    refine lv_iload_n hx hb dX7_exceptions_4 rfl (lv_at hl 3 rfl) ?_
    refine lv_aload_n hx hb dX7_exceptions_5 rfl (lv_at hl 0 rfl) ?_
    refine wk_geti (ci := 6) (k := 11) S hK hH j_X7 t0 rfl hq_6_11 (hts _ (wU_in _ m_635)) dX7_exceptions_6 ?_
    refine lv_icmp_ge (tgt := 79) hx hb dX7_exceptions_9 (by decide) (fun c8 => ?_) (fun c8 => ?_)
    · replace hf := ite_t c8 hf
      refine lv_iload_n hx hb dX7_exceptions_79 rfl (lv_at hl 2 rfl) ?_
      exact wk_iret S hr hlk hK hN hH hf dX7_exceptions_80
    · replace hf := ite_f c8 hf
      refine lv_iconst (v := 0) hx hb dX7_exceptions_12 (by decide) ?_
      refine lv_istore (lv' := [(4, .int ((0 : Int32))), (0, .ref (X.2.2.2 a0)), (1, .ref (X.2.2.2 a1)), (2, .int x2), (3, .int x3)]) hx hb dX7_exceptions_13 hl (by decide) rfl (fun ls hl => ?_)
      exact BL15 k4 hk4 FU _ _ _ _ hf H locs ls (lv_sub hl [1, 2, 3, 4, 0] rfl) hH
  have BL4 : ∀ (n : Nat) (x2 : Int32) (x3 : Int32) (h : Hp), f_X7_exceptions_4 a0 a1 n x2 x3 h = some (r0, h0) → BK p l e ({ frames := 4, cells := 0, slots := 0, locals := 100 }) s m args below meth c (MQ below (cQi X r0 h0) args s 0 0 (AD X)) X 6 4 [(0, .ref (X.2.2.2 a0)), (1, .ref (X.2.2.2 a1)), (2, .int x2), (3, .int x3)] [] h := by
    intro n
    induction n with
    | zero => intro x2 x3 h hf; cases hf
    | succ n ih => intro x2 x3 h hf; exact B4 _ ih _ _ _ hf
  intro H locs ls hl hH
  replace hl : lv_has ls 6 [(0, .ref (X.2.2.2 a0)), (1, .ref (X.2.2.2 a1))] := hl
  unfold f_X7_exceptions at hf
  refine lv_iconst (v := 0) hx hb dX7_exceptions_0 (by decide) ?_
  refine lv_istore_n (lv' := [(2, .int ((0 : Int32))), (0, .ref (X.2.2.2 a0)), (1, .ref (X.2.2.2 a1))]) hx hb dX7_exceptions_1 rfl hl (by decide) rfl (fun ls hl => ?_)
  refine lv_iconst (v := 0) hx hb dX7_exceptions_2 (by decide) ?_
  refine lv_istore_n (lv' := [(3, .int ((0 : Int32))), (2, .int ((0 : Int32))), (0, .ref (X.2.2.2 a0)), (1, .ref (X.2.2.2 a1))]) hx hb dX7_exceptions_3 rfl hl (by decide) rfl (fun ls hl => ?_)
  exact BL4 FU _ _ _ hf H locs ls (lv_sub hl [2, 3, 1, 0] rfl) hH
set_option maxHeartbeats 4000000 in
set_option maxRecDepth 100000 in
theorem C_X7_manyForms (l : Launch) (X : Cx) (hI : Inj X) {a0 : Nat} (t0 : tY a0 = 6) (h : Hp) (r0 : Int32) (h0 : Hp) (hf : f_X7_manyForms a0 h = some (r0, h0)) : Mi l X yX7_manyForms cX7_manyForms 3 (some .int) 0 0 h [.ref (X.2.2.2 a0)] r0 h0 := by
  refine BD_of (own := RX7) hI rfl (by decide) (Nat.le_of_ble_eq_true rfl) ?_
  intro p e s m args below meth c S hr hlk hK hN
  obtain ⟨hx, hb, hml, hown, hts⟩ := id S
  have B28 : ∀ (k5 : Int32 → Int32 → Hp → Option (Int32 × Hp)) (hk5 : ∀ (x1 : Int32) (x2 : Int32) (h : Hp), k5 x1 x2 h = some (r0, h0) → BK p l e ({ frames := 0, cells := 0, slots := 0, locals := 0 }) s m args below meth c (MQ below (cQi X r0 h0) args s 0 0 (AD X)) X 3 5 [(0, .ref (X.2.2.2 a0)), (1, .int x1), (2, .int x2)] [] h) (x2 : Int32) (z0 : Int32) (z1 : Int32) (h : Hp), g_X7_manyForms_28 a0 k5 x2 z0 z1 h = some (r0, h0) → BK p l e ({ frames := 0, cells := 0, slots := 0, locals := 0 }) s m args below meth c (MQ below (cQi X r0 h0) args s 0 0 (AD X)) X 3 28 [(0, .ref (X.2.2.2 a0)), (2, .int x2)] [.int z1, .int z0] h := by
    intro k5 hk5 x2 z0 z1 h hf H locs ls hl hH
    unfold g_X7_manyForms_28 at hf
    refine lv_iadd hx hb dX7_manyForms_28 ?_
    refine lv_istore_n (lv' := [(1, .int ((z0 + z1))), (0, .ref (X.2.2.2 a0)), (2, .int x2)]) hx hb dX7_manyForms_29 rfl hl (by decide) rfl (fun ls hl => ?_)
    refine lv_iinc (v := (x2 + (1 : Int32))) (lv' := [(2, .int ((x2 + (1 : Int32)))), (1, .int ((z0 + z1))), (0, .ref (X.2.2.2 a0))]) hx hb dX7_manyForms_30 hl (k := 2) rfl rfl (by decide) rfl (fun ls hl => ?_)
    refine lv_goto (tgt := 5) hx hb dX7_manyForms_33 (by decide) ?_
    exact hk5 _ _ _ hf H locs ls (lv_sub hl [2, 1, 0] rfl) hH
  have B5 : ∀ (k5 : Int32 → Int32 → Hp → Option (Int32 × Hp)) (hk5 : ∀ (x1 : Int32) (x2 : Int32) (h : Hp), k5 x1 x2 h = some (r0, h0) → BK p l e ({ frames := 0, cells := 0, slots := 0, locals := 0 }) s m args below meth c (MQ below (cQi X r0 h0) args s 0 0 (AD X)) X 3 5 [(0, .ref (X.2.2.2 a0)), (1, .int x1), (2, .int x2)] [] h) (x1 : Int32) (x2 : Int32) (h : Hp), g_X7_manyForms_5 a0 k5 x1 x2 h = some (r0, h0) → BK p l e ({ frames := 0, cells := 0, slots := 0, locals := 0 }) s m args below meth c (MQ below (cQi X r0 h0) args s 0 0 (AD X)) X 3 5 [(0, .ref (X.2.2.2 a0)), (1, .int x1), (2, .int x2)] [] h := by
    intro k5 hk5 x1 x2 h hf H locs ls hl hH
    unfold g_X7_manyForms_5 at hf
    refine lv_iload_n hx hb dX7_manyForms_5 rfl (lv_at hl 2 rfl) ?_
    refine lv_bipush (v := 32) hx hb dX7_manyForms_6 (by decide) ?_
    refine lv_icmp_ge (tgt := 36) hx hb dX7_manyForms_8 (by decide) (fun c1 => ?_) (fun c1 => ?_)
    · replace hf := ite_t c1 hf
      refine lv_iload_n hx hb dX7_manyForms_36 rfl (lv_at hl 1 rfl) ?_
      exact wk_iret S hr hlk hK hN hH hf dX7_manyForms_37
    · replace hf := ite_f c1 hf
      refine lv_iload_n hx hb dX7_manyForms_11 rfl (lv_at hl 1 rfl) ?_
      refine lv_aload_n hx hb dX7_manyForms_12 rfl (lv_at hl 0 rfl) ?_
      refine wk_getr (ci := 6) (k := 2) S hK hH j_X7 t0 rfl hq_6_2 (hts _ (wU_in _ m_626)) dX7_manyForms_13 ?_
      refine lv_iload_n hx hb dX7_manyForms_16 rfl (lv_at hl 2 rfl) ?_
      obtain ⟨o2, hf⟩ := ite_ok hf
      refine wk_iald S hK hH (tr_6_2 t0) o2 dX7_manyForms_17 ?_
      refine lv_bipush (v := (-9)) hx hb dX7_manyForms_18 (by decide) ?_
      refine lv_icmp_ne (tgt := 27) hx hb dX7_manyForms_20 (by decide) (fun c3 => ?_) (fun c3 => ?_)
      · replace hf := ite_f c3 hf
        refine lv_iconst (v := 1) hx hb dX7_manyForms_27 (by decide) ?_
        exact B28 k5 hk5 _ _ _ _ hf H locs ls (lv_sub hl [0, 2] rfl) hH
      · replace hf := ite_t c3 hf
        refine lv_iconst (v := 0) hx hb dX7_manyForms_23 (by decide) ?_
        refine lv_goto (tgt := 28) hx hb dX7_manyForms_24 (by decide) ?_
        exact B28 k5 hk5 _ _ _ _ hf H locs ls (lv_sub hl [0, 2] rfl) hH
  have BL5 : ∀ (n : Nat) (x1 : Int32) (x2 : Int32) (h : Hp), f_X7_manyForms_5 a0 n x1 x2 h = some (r0, h0) → BK p l e ({ frames := 0, cells := 0, slots := 0, locals := 0 }) s m args below meth c (MQ below (cQi X r0 h0) args s 0 0 (AD X)) X 3 5 [(0, .ref (X.2.2.2 a0)), (1, .int x1), (2, .int x2)] [] h := by
    intro n
    induction n with
    | zero => intro x1 x2 h hf; cases hf
    | succ n ih => intro x1 x2 h hf; exact B5 _ ih _ _ _ hf
  intro H locs ls hl hH
  replace hl : lv_has ls 3 [(0, .ref (X.2.2.2 a0))] := hl
  unfold f_X7_manyForms at hf
  refine lv_iconst (v := 0) hx hb dX7_manyForms_0 (by decide) ?_
  refine lv_istore_n (lv' := [(1, .int ((0 : Int32))), (0, .ref (X.2.2.2 a0))]) hx hb dX7_manyForms_1 rfl hl (by decide) rfl (fun ls hl => ?_)
  refine lv_bipush (v := 20) hx hb dX7_manyForms_2 (by decide) ?_
  refine lv_istore_n (lv' := [(2, .int ((20 : Int32))), (1, .int ((0 : Int32))), (0, .ref (X.2.2.2 a0))]) hx hb dX7_manyForms_4 rfl hl (by decide) rfl (fun ls hl => ?_)
  exact BL5 FU _ _ _ hf H locs ls (lv_sub hl [2, 1, 0] rfl) hH
set_option maxHeartbeats 4000000 in
set_option maxRecDepth 100000 in
theorem C_X7_about (l : Launch) (X : Cx) (hI : Inj X) {a0 : Nat} (t0 : tY a0 = 6) (a1 : Int32) (h : Hp) (r0 : Int32) (h0 : Hp) (hf : f_X7_about a0 a1 h = some (r0, h0)) : Mi l X yX7_about cX7_about 2 (some .int) 5 127 h [.ref (X.2.2.2 a0), .int a1] r0 h0 := by
  refine BD_of (own := RX7) hI rfl (by decide) (Nat.le_of_ble_eq_true rfl) ?_
  intro p e s m args below meth c S hr hlk hK hN
  obtain ⟨hx, hb, hml, hown, hts⟩ := id S
  intro H locs ls hl hH
  replace hl : lv_has ls 2 [(0, .ref (X.2.2.2 a0)), (1, .int a1)] := hl
  unfold f_X7_about at hf
  refine lv_iload_n hx hb dX7_about_0 rfl (lv_at hl 1 rfl) ?_
  by_cases c1 : a1 = 0
  · replace hf := ite_t c1 hf
    refine lv_tableIn (off := 55) (tgt := 56) hx hb dX7_about_1 (by rw [c1]; decide) (by rw [c1]; decide) (by rw [c1]; decide) (by decide) ?_
    refine lv_aload_n hx hb dX7_about_56 rfl (lv_at hl 0 rfl) ?_
    refine wk_geti (ci := 6) (k := 11) S hK hH j_X7 t0 rfl hq_6_11 (hts _ (wU_in _ m_635)) dX7_about_57 ?_
    exact wk_iret S hr hlk hK hN hH hf dX7_about_60
  replace hf := ite_f c1 hf
  by_cases c2 : a1 = 1
  · replace hf := ite_t c2 hf
    refine lv_tableIn (off := 60) (tgt := 61) hx hb dX7_about_1 (by rw [c2]; decide) (by rw [c2]; decide) (by rw [c2]; decide) (by decide) ?_
    refine lv_aload_n hx hb dX7_about_61 rfl (lv_at hl 0 rfl) ?_
    refine wk_geti (ci := 6) (k := 12) S hK hH j_X7 t0 rfl hq_6_12 (hts _ (wU_in _ m_636)) dX7_about_62 ?_
    exact wk_iret S hr hlk hK hN hH hf dX7_about_65
  replace hf := ite_f c2 hf
  by_cases c3 : a1 = 2
  · replace hf := ite_t c3 hf
    refine lv_tableIn (off := 65) (tgt := 66) hx hb dX7_about_1 (by rw [c3]; decide) (by rw [c3]; decide) (by rw [c3]; decide) (by decide) ?_
    refine lv_aload_n hx hb dX7_about_66 rfl (lv_at hl 0 rfl) ?_
    refine wk_geti (ci := 6) (k := 13) S hK hH j_X7 t0 rfl hq_6_13 (hts _ (wU_in _ m_637)) dX7_about_67 ?_
    exact wk_iret S hr hlk hK hN hH hf dX7_about_70
  replace hf := ite_f c3 hf
  by_cases c4 : a1 = 3
  · replace hf := ite_t c4 hf
    refine lv_tableIn (off := 70) (tgt := 71) hx hb dX7_about_1 (by rw [c4]; decide) (by rw [c4]; decide) (by rw [c4]; decide) (by decide) ?_
    refine lv_aload_n hx hb dX7_about_71 rfl (lv_at hl 0 rfl) ?_
    refine lv_aload_n hx hb dX7_about_72 rfl (lv_at hl 0 rfl) ?_
    refine wk_getr (ci := 6) (k := 2) S hK hH j_X7 t0 rfl hq_6_2 (hts _ (wU_in _ m_626)) dX7_about_73 ?_
    refine lv_bipush (v := 15) hx hb dX7_about_76 (by decide) ?_
    obtain ⟨r7, h6, hq5, hf⟩ := bnd_ok hf
    refine wk_callVi (ci := 6) (b := a0) (As := [.ref (X.2.2.2 (rF a0 2)), .int ((15 : Int32))]) (rest := []) S hK hN hH t0 (by decide) rfl (C_X7_unlike l X hI t0 (tr_6_2 t0) (15 : Int32) _ _ _ hq5) (cwV 2 hts (gV wU_in m_769 m_771 m_17 m_41 m_772) rfl rfl rfl hdV_X7_unlike ⟨Nat.le_of_ble_eq_true rfl, Nat.le_of_ble_eq_true rfl⟩) hl.1 rfl rfl (Nat.le_of_ble_eq_true rfl) dX7_about_78 ⟨Nat.zero_le _, Nat.zero_le _⟩ (fun H locs hH => ?_)
    exact wk_iret S hr hlk hK hN hH hf dX7_about_81
  replace hf := ite_f c4 hf
  by_cases c8 : a1 = 4
  · replace hf := ite_t c8 hf
    refine lv_tableIn (off := 81) (tgt := 82) hx hb dX7_about_1 (by rw [c8]; decide) (by rw [c8]; decide) (by rw [c8]; decide) (by decide) ?_
    refine lv_aload_n hx hb dX7_about_82 rfl (lv_at hl 0 rfl) ?_
    refine lv_aload_n hx hb dX7_about_83 rfl (lv_at hl 0 rfl) ?_
    refine wk_getr (ci := 6) (k := 2) S hK hH j_X7 t0 rfl hq_6_2 (hts _ (wU_in _ m_626)) dX7_about_84 ?_
    obtain ⟨r11, h10, hq9, hf⟩ := bnd_ok hf
    refine wk_callVi (ci := 6) (b := a0) (As := [.ref (X.2.2.2 (rF a0 2))]) (rest := []) S hK hN hH t0 (by decide) rfl (C_X7_active l X hI t0 (tr_6_2 t0) _ _ _ hq9) (cwV 1 hts (gV wU_in m_802 m_804 m_20 m_41 m_805) rfl rfl rfl hdV_X7_active ⟨Nat.le_of_ble_eq_true rfl, Nat.le_of_ble_eq_true rfl⟩) hl.1 rfl rfl (Nat.le_of_ble_eq_true rfl) dX7_about_87 ⟨Nat.zero_le _, Nat.zero_le _⟩ (fun H locs hH => ?_)
    exact wk_iret S hr hlk hK hN hH hf dX7_about_90
  replace hf := ite_f c8 hf
  by_cases c12 : a1 = 5
  · replace hf := ite_t c12 hf
    refine lv_tableIn (off := 90) (tgt := 91) hx hb dX7_about_1 (by rw [c12]; decide) (by rw [c12]; decide) (by rw [c12]; decide) (by decide) ?_
    refine lv_aload_n hx hb dX7_about_91 rfl (lv_at hl 0 rfl) ?_
    refine lv_aload_n hx hb dX7_about_92 rfl (lv_at hl 0 rfl) ?_
    refine wk_getr (ci := 6) (k := 2) S hK hH j_X7 t0 rfl hq_6_2 (hts _ (wU_in _ m_626)) dX7_about_93 ?_
    obtain ⟨r15, h14, hq13, hf⟩ := bnd_ok hf
    refine wk_callVi (ci := 6) (b := a0) (As := [.ref (X.2.2.2 (rF a0 2))]) (rest := []) S hK hN hH t0 (by decide) rfl (C_X7_exceptions l X hI t0 (tr_6_2 t0) _ _ _ hq13) (cwV 1 hts (gV wU_in m_806 m_808 m_21 m_41 m_809) rfl rfl rfl hdV_X7_exceptions ⟨Nat.le_of_ble_eq_true rfl, Nat.le_of_ble_eq_true rfl⟩) hl.1 rfl rfl (Nat.le_of_ble_eq_true rfl) dX7_about_96 ⟨Nat.zero_le _, Nat.zero_le _⟩ (fun H locs hH => ?_)
    exact wk_iret S hr hlk hK hN hH hf dX7_about_99
  replace hf := ite_f c12 hf
  by_cases c16 : a1 = 6
  · replace hf := ite_t c16 hf
    refine lv_tableIn (off := 99) (tgt := 100) hx hb dX7_about_1 (by rw [c16]; decide) (by rw [c16]; decide) (by rw [c16]; decide) (by decide) ?_
    refine lv_aload_n hx hb dX7_about_100 rfl (lv_at hl 0 rfl) ?_
    obtain ⟨r19, h18, hq17, hf⟩ := bnd_ok hf
    refine wk_callVi (ci := 6) (b := a0) (As := []) (rest := []) S hK hN hH t0 (by decide) rfl (C_X7_manyForms l X hI t0 _ _ _ hq17) (cwV 0 hts (gV wU_in m_810 m_812 m_22 m_41 m_813) rfl rfl rfl hdV_X7_manyForms ⟨Nat.le_of_ble_eq_true rfl, Nat.le_of_ble_eq_true rfl⟩) hl.1 rfl rfl (Nat.le_of_ble_eq_true rfl) dX7_about_101 ⟨Nat.zero_le _, Nat.zero_le _⟩ (fun H locs hH => ?_)
    exact wk_iret S hr hlk hK hN hH hf dX7_about_104
  replace hf := ite_f c16 hf
  by_cases c20 : a1 = 7
  · replace hf := ite_t c20 hf
    refine lv_tableIn (off := 104) (tgt := 105) hx hb dX7_about_1 (by rw [c20]; decide) (by rw [c20]; decide) (by rw [c20]; decide) (by decide) ?_
    refine lv_aload_n hx hb dX7_about_105 rfl (lv_at hl 0 rfl) ?_
    refine wk_geti (ci := 6) (k := 5) S hK hH j_X7 t0 rfl hq_6_5 (hts _ (wU_in _ m_629)) dX7_about_106 ?_
    exact wk_iret S hr hlk hK hN hH hf dX7_about_109
  replace hf := ite_f c20 hf
  by_cases c21 : a1 = 8
  · replace hf := ite_t c21 hf
    refine lv_tableIn (off := 109) (tgt := 110) hx hb dX7_about_1 (by rw [c21]; decide) (by rw [c21]; decide) (by rw [c21]; decide) (by decide) ?_
    refine lv_aload_n hx hb dX7_about_110 rfl (lv_at hl 0 rfl) ?_
    refine wk_geti (ci := 6) (k := 26) S hK hH j_X7 t0 rfl hq_6_26 (hts _ (wU_in _ m_650)) dX7_about_111 ?_
    exact wk_iret S hr hlk hK hN hH hf dX7_about_114
  replace hf := ite_f c21 hf
  by_cases c22 : a1 = 9
  · replace hf := ite_t c22 hf
    refine lv_tableIn (off := 114) (tgt := 115) hx hb dX7_about_1 (by rw [c22]; decide) (by rw [c22]; decide) (by rw [c22]; decide) (by decide) ?_
    refine lv_aload_n hx hb dX7_about_115 rfl (lv_at hl 0 rfl) ?_
    refine wk_geti (ci := 6) (k := 1) S hK hH j_X7 t0 rfl hq_6_1 (hts _ (wU_in _ m_625)) dX7_about_116 ?_
    exact wk_iret S hr hlk hK hN hH hf dX7_about_119
  replace hf := ite_f c22 hf
  have ec1 := lv_neT (a := 0) c1 (by decide)
  have ec2 := lv_neT (a := 1) c2 (by decide)
  have ec3 := lv_neT (a := 2) c3 (by decide)
  have ec4 := lv_neT (a := 3) c4 (by decide)
  have ec8 := lv_neT (a := 4) c8 (by decide)
  have ec12 := lv_neT (a := 5) c12 (by decide)
  have ec16 := lv_neT (a := 6) c16 (by decide)
  have ec20 := lv_neT (a := 7) c20 (by decide)
  have ec21 := lv_neT (a := 8) c21 (by decide)
  have ec22 := lv_neT (a := 9) c22 (by decide)
  refine lv_tableOut (tgt := 120) hx hb dX7_about_1 (by omega) (by decide) ?_
  refine lv_bipush (v := (-2)) hx hb dX7_about_120 (by decide) ?_
  exact wk_iret S hr hlk hK hN hH hf dX7_about_122
set_option maxHeartbeats 4000000 in
set_option maxRecDepth 100000 in
theorem C_X7_part (l : Launch) (X : Cx) (hI : Inj X) {a0 : Nat} (t0 : tY a0 = 6) (a1 : Int32) (a2 : Int32) (h : Hp) (r0 : Int32) (h0 : Hp) (hf : f_X7_part a0 a1 a2 h = some (r0, h0)) : Mi l X yX7_part cX7_part 3 (some .int) 2 46 h [.ref (X.2.2.2 a0), .int a1, .int a2] r0 h0 := by
  refine BD_of (own := RX7) hI rfl (by decide) (Nat.le_of_ble_eq_true rfl) ?_
  intro p e s m args below meth c S hr hlk hK hN
  obtain ⟨hx, hb, hml, hown, hts⟩ := id S
  intro H locs ls hl hH
  replace hl : lv_has ls 3 [(0, .ref (X.2.2.2 a0)), (1, .int a1), (2, .int a2)] := hl
  unfold f_X7_part at hf
  refine lv_iload_n hx hb dX7_part_0 rfl (lv_at hl 1 rfl) ?_
  refine lv_if_ne (tgt := 23) hx hb dX7_part_1 (by decide) (fun c1 => ?_) (fun c1 => ?_)
  · replace hf := ite_f c1 hf
    refine lv_iload_n hx hb dX7_part_23 rfl (lv_at hl 1 rfl) ?_
    refine lv_iconst (v := 1) hx hb dX7_part_24 (by decide) ?_
    refine lv_icmp_ne (tgt := 47) hx hb dX7_part_25 (by decide) (fun c2 => ?_) (fun c2 => ?_)
    · replace hf := ite_f c2 hf
      refine lv_bipush (v := (-2)) hx hb dX7_part_47 (by decide) ?_
      exact wk_iret S hr hlk hK hN hH hf dX7_part_49
    · replace hf := ite_t c2 hf
      refine lv_aload_n hx hb dX7_part_28 rfl (lv_at hl 0 rfl) ?_
      refine lv_iload_n hx hb dX7_part_29 rfl (lv_at hl 2 rfl) ?_
      obtain ⟨r5, h4, hq3, hf⟩ := bnd_ok hf
      refine wk_callVi (ci := 6) (b := a0) (As := [.int a2]) (rest := []) S hK hN hH t0 (by decide) rfl (C_X7_isEnding l X hI t0 a2 _ _ _ hq3) (cwV 1 hts (gV wU_in m_822 m_824 m_24 m_41 m_825) rfl rfl rfl hdV_X7_isEnding ⟨Nat.le_of_ble_eq_true rfl, Nat.le_of_ble_eq_true rfl⟩) hl.1 rfl rfl (Nat.le_of_ble_eq_true rfl) dX7_part_30 ⟨Nat.zero_le _, Nat.zero_le _⟩ (fun H locs hH => ?_)
      refine lv_if_eq (tgt := 45) hx hb dX7_part_33 (by decide) (fun c6 => ?_) (fun c6 => ?_)
      · replace hf := ite_t c6 hf
        refine lv_iconst (v := (-1)) hx hb dX7_part_45 (by decide) ?_
        exact wk_iret S hr hlk hK hN hH hf dX7_part_46
      · replace hf := ite_f c6 hf
        refine lv_aload_n hx hb dX7_part_36 rfl (lv_at hl 0 rfl) ?_
        refine wk_getr (ci := 6) (k := 10) S hK hH j_X7 t0 rfl hq_6_10 (hts _ (wU_in _ m_634)) dX7_part_37 ?_
        refine lv_iload_n hx hb dX7_part_40 rfl (lv_at hl 2 rfl) ?_
        obtain ⟨o7, hf⟩ := ite_ok hf
        refine wk_iald S hK hH (tr_6_10 t0) o7 dX7_part_41 ?_
        refine lv_goto (tgt := 46) hx hb dX7_part_42 (by decide) ?_
        exact wk_iret S hr hlk hK hN hH hf dX7_part_46
  · replace hf := ite_t c1 hf
    refine lv_aload_n hx hb dX7_part_4 rfl (lv_at hl 0 rfl) ?_
    refine lv_iload_n hx hb dX7_part_5 rfl (lv_at hl 2 rfl) ?_
    obtain ⟨r10, h9, hq8, hf⟩ := bnd_ok hf
    refine wk_callVi (ci := 6) (b := a0) (As := [.int a2]) (rest := []) S hK hN hH t0 (by decide) rfl (C_X7_isRoot l X hI t0 a2 _ _ _ hq8) (cwV 1 hts (gV wU_in m_818 m_820 m_23 m_41 m_821) rfl rfl rfl hdV_X7_isRoot ⟨Nat.le_of_ble_eq_true rfl, Nat.le_of_ble_eq_true rfl⟩) hl.1 rfl rfl (Nat.le_of_ble_eq_true rfl) dX7_part_6 ⟨Nat.zero_le _, Nat.zero_le _⟩ (fun H locs hH => ?_)
    refine lv_if_eq (tgt := 21) hx hb dX7_part_9 (by decide) (fun c11 => ?_) (fun c11 => ?_)
    · replace hf := ite_t c11 hf
      refine lv_iconst (v := (-1)) hx hb dX7_part_21 (by decide) ?_
      exact wk_iret S hr hlk hK hN hH hf dX7_part_22
    · replace hf := ite_f c11 hf
      refine lv_aload_n hx hb dX7_part_12 rfl (lv_at hl 0 rfl) ?_
      refine wk_getr (ci := 6) (k := 9) S hK hH j_X7 t0 rfl hq_6_9 (hts _ (wU_in _ m_633)) dX7_part_13 ?_
      refine lv_iload_n hx hb dX7_part_16 rfl (lv_at hl 2 rfl) ?_
      obtain ⟨o12, hf⟩ := ite_ok hf
      refine wk_iald S hK hH (tr_6_9 t0) o12 dX7_part_17 ?_
      refine lv_goto (tgt := 22) hx hb dX7_part_18 (by decide) ?_
      exact wk_iret S hr hlk hK hN hH hf dX7_part_22
set_option maxHeartbeats 4000000 in
set_option maxRecDepth 100000 in
theorem C_X7_sign (l : Launch) (X : Cx) (hI : Inj X) {a0 : Nat} (t0 : tY a0 = 6) (a1 : Int32) (a2 : Int32) (h : Hp) (r0 : Int32) (h0 : Hp) (hf : f_X7_sign a0 a1 a2 h = some (r0, h0)) : Mi l X yX7_sign cX7_sign 3 (some .int) 2 46 h [.ref (X.2.2.2 a0), .int a1, .int a2] r0 h0 := by
  refine BD_of (own := RX7) hI rfl (by decide) (Nat.le_of_ble_eq_true rfl) ?_
  intro p e s m args below meth c S hr hlk hK hN
  obtain ⟨hx, hb, hml, hown, hts⟩ := id S
  intro H locs ls hl hH
  replace hl : lv_has ls 3 [(0, .ref (X.2.2.2 a0)), (1, .int a1), (2, .int a2)] := hl
  unfold f_X7_sign at hf
  refine lv_aload_n hx hb dX7_sign_0 rfl (lv_at hl 0 rfl) ?_
  refine lv_iload_n hx hb dX7_sign_1 rfl (lv_at hl 1 rfl) ?_
  obtain ⟨r3, h2, hq1, hf⟩ := bnd_ok hf
  refine wk_callVi (ci := 6) (b := a0) (As := [.int a1]) (rest := []) S hK hN hH t0 (by decide) rfl (C_X7_isChange l X hI t0 a1 _ _ _ hq1) (cwV 1 hts (gV wU_in m_830 m_832 m_25 m_41 m_833) rfl rfl rfl hdV_X7_isChange ⟨Nat.le_of_ble_eq_true rfl, Nat.le_of_ble_eq_true rfl⟩) hl.1 rfl rfl (Nat.le_of_ble_eq_true rfl) dX7_sign_2 ⟨Nat.zero_le _, Nat.zero_le _⟩ (fun H locs hH => ?_)
  refine lv_if_ne (tgt := 10) hx hb dX7_sign_5 (by decide) (fun c4 => ?_) (fun c4 => ?_)
  · replace hf := ite_f c4 hf
    refine lv_iload_n hx hb dX7_sign_10 rfl (lv_at hl 2 rfl) ?_
    refine lv_i2l hx hb dX7_sign_11 rfl ?_
    refine lv_lconst (v := 0) hx hb dX7_sign_12 (by decide) ?_
    refine lv_ldc2 hx hb hown (hts _ (wU_in _ m_834)) dX7_sign_13 ?_
    obtain ⟨r7, h6, hq5, hf⟩ := bnd_ok hf
    refine wk_callSi (As := [.long ((a2).toInt64), .long ((0 : Int64)), .long ((3 : Int64))]) (rest := []) S hK hN hH (C_X7_in l X hI ((a2).toInt64) (0 : Int64) (3 : Int64) _ _ _ hq5) (va_cwS 3 hts (gS wU_in m_720 m_721 m_41 m_722) rfl rfl rfl hdS_X7_in ⟨Nat.le_of_ble_eq_true rfl, Nat.le_of_ble_eq_true rfl⟩) hl.1 rfl rfl (Nat.le_of_ble_eq_true rfl) dX7_sign_16 ⟨Nat.zero_le _, Nat.zero_le _⟩ (fun H locs hH => ?_)
    refine lv_if_eq (tgt := 37) hx hb dX7_sign_19 (by decide) (fun c8 => ?_) (fun c8 => ?_)
    · replace hf := ite_t c8 hf
      refine lv_bipush (v := (-2)) hx hb dX7_sign_37 (by decide) ?_
      exact wk_iret S hr hlk hK hN hH hf dX7_sign_39
    · replace hf := ite_f c8 hf
      refine lv_aload_n hx hb dX7_sign_22 rfl (lv_at hl 0 rfl) ?_
      refine wk_getr (ci := 6) (k := 2) S hK hH j_X7 t0 rfl hq_6_2 (hts _ (wU_in _ m_626)) dX7_sign_23 ?_
      refine lv_iconst (v := 4) hx hb dX7_sign_26 (by decide) ?_
      refine lv_iconst (v := 4) hx hb dX7_sign_27 (by decide) ?_
      refine lv_iload_n hx hb dX7_sign_28 rfl (lv_at hl 1 rfl) ?_
      refine lv_imul hx hb dX7_sign_29 ?_
      refine lv_iadd hx hb dX7_sign_30 ?_
      refine lv_iload_n hx hb dX7_sign_31 rfl (lv_at hl 2 rfl) ?_
      refine lv_iadd hx hb dX7_sign_32 ?_
      obtain ⟨o9, hf⟩ := ite_ok hf
      refine wk_iald S hK hH (tr_6_2 t0) o9 dX7_sign_33 ?_
      refine lv_goto (tgt := 39) hx hb dX7_sign_34 (by decide) ?_
      exact wk_iret S hr hlk hK hN hH hf dX7_sign_39
  · replace hf := ite_t c4 hf
    refine lv_iconst (v := (-1)) hx hb dX7_sign_8 (by decide) ?_
    exact wk_iret S hr hlk hK hN hH hf dX7_sign_9
set_option maxHeartbeats 4000000 in
set_option maxRecDepth 100000 in
theorem C_X7_order (l : Launch) (X : Cx) (hI : Inj X) {a0 : Nat} (t0 : tY a0 = 6) (a1 : Int32) (h : Hp) (r0 : Int32) (h0 : Hp) (hf : f_X7_order a0 a1 h = some (r0, h0)) : Mi l X yX7_order cX7_order 2 (some .int) 2 46 h [.ref (X.2.2.2 a0), .int a1] r0 h0 := by
  refine BD_of (own := RX7) hI rfl (by decide) (Nat.le_of_ble_eq_true rfl) ?_
  intro p e s m args below meth c S hr hlk hK hN
  obtain ⟨hx, hb, hml, hown, hts⟩ := id S
  intro H locs ls hl hH
  replace hl : lv_has ls 2 [(0, .ref (X.2.2.2 a0)), (1, .int a1)] := hl
  unfold f_X7_order at hf
  refine lv_aload_n hx hb dX7_order_0 rfl (lv_at hl 0 rfl) ?_
  refine lv_iload_n hx hb dX7_order_1 rfl (lv_at hl 1 rfl) ?_
  obtain ⟨r3, h2, hq1, hf⟩ := bnd_ok hf
  refine wk_callVi (ci := 6) (b := a0) (As := [.int a1]) (rest := []) S hK hN hH t0 (by decide) rfl (C_X7_isChange l X hI t0 a1 _ _ _ hq1) (cwV 1 hts (gV wU_in m_830 m_832 m_25 m_41 m_833) rfl rfl rfl hdV_X7_isChange ⟨Nat.le_of_ble_eq_true rfl, Nat.le_of_ble_eq_true rfl⟩) hl.1 rfl rfl (Nat.le_of_ble_eq_true rfl) dX7_order_2 ⟨Nat.zero_le _, Nat.zero_le _⟩ (fun H locs hH => ?_)
  refine lv_if_eq (tgt := 17) hx hb dX7_order_5 (by decide) (fun c4 => ?_) (fun c4 => ?_)
  · replace hf := ite_t c4 hf
    refine lv_iconst (v := (-1)) hx hb dX7_order_17 (by decide) ?_
    exact wk_iret S hr hlk hK hN hH hf dX7_order_18
  · replace hf := ite_f c4 hf
    refine lv_aload_n hx hb dX7_order_8 rfl (lv_at hl 0 rfl) ?_
    refine wk_getr (ci := 6) (k := 2) S hK hH j_X7 t0 rfl hq_6_2 (hts _ (wU_in _ m_626)) dX7_order_9 ?_
    refine lv_iload_n hx hb dX7_order_12 rfl (lv_at hl 1 rfl) ?_
    obtain ⟨o5, hf⟩ := ite_ok hf
    refine wk_iald S hK hH (tr_6_2 t0) o5 dX7_order_13 ?_
    refine lv_goto (tgt := 18) hx hb dX7_order_14 (by decide) ?_
    exact wk_iret S hr hlk hK hN hH hf dX7_order_18
set_option maxHeartbeats 4000000 in
set_option maxRecDepth 100000 in
theorem C_X7_made (l : Launch) (X : Cx) (hI : Inj X) {a0 : Nat} (t0 : tY a0 = 6) (a1 : Int32) (a2 : Int32) (h : Hp) (r0 : Int32) (h0 : Hp) (hf : f_X7_made a0 a1 a2 h = some (r0, h0)) : Mi l X yX7_made cX7_made 3 (some .int) 4 100 h [.ref (X.2.2.2 a0), .int a1, .int a2] r0 h0 := by
  refine BD_of (own := RX7) hI rfl (by decide) (Nat.le_of_ble_eq_true rfl) ?_
  intro p e s m args below meth c S hr hlk hK hN
  obtain ⟨hx, hb, hml, hown, hts⟩ := id S
  intro H locs ls hl hH
  replace hl : lv_has ls 3 [(0, .ref (X.2.2.2 a0)), (1, .int a1), (2, .int a2)] := hl
  unfold f_X7_made at hf
  refine lv_aload_n hx hb dX7_made_0 rfl (lv_at hl 0 rfl) ?_
  refine lv_iload_n hx hb dX7_made_1 rfl (lv_at hl 1 rfl) ?_
  obtain ⟨r3, h2, hq1, hf⟩ := bnd_ok hf
  refine wk_callVi (ci := 6) (b := a0) (As := [.int a1]) (rest := []) S hK hN hH t0 (by decide) rfl (C_X7_isRoot l X hI t0 a1 _ _ _ hq1) (cwV 1 hts (gV wU_in m_818 m_820 m_23 m_41 m_821) rfl rfl rfl hdV_X7_isRoot ⟨Nat.le_of_ble_eq_true rfl, Nat.le_of_ble_eq_true rfl⟩) hl.1 rfl rfl (Nat.le_of_ble_eq_true rfl) dX7_made_2 ⟨Nat.zero_le _, Nat.zero_le _⟩ (fun H locs hH => ?_)
  refine lv_if_eq (tgt := 31) hx hb dX7_made_5 (by decide) (fun c4 => ?_) (fun c4 => ?_)
  · replace hf := ite_t c4 hf
    refine lv_iconst (v := (-1)) hx hb dX7_made_31 (by decide) ?_
    exact wk_iret S hr hlk hK hN hH hf dX7_made_32
  · replace hf := ite_f c4 hf
    refine lv_aload_n hx hb dX7_made_8 rfl (lv_at hl 0 rfl) ?_
    refine lv_iload_n hx hb dX7_made_9 rfl (lv_at hl 2 rfl) ?_
    obtain ⟨r7, h6, hq5, hf⟩ := bnd_ok hf
    refine wk_callVi (ci := 6) (b := a0) (As := [.int a2]) (rest := []) S hK hN hH t0 (by decide) rfl (C_X7_isEnding l X hI t0 a2 _ _ _ hq5) (cwV 1 hts (gV wU_in m_822 m_824 m_24 m_41 m_825) rfl rfl rfl hdV_X7_isEnding ⟨Nat.le_of_ble_eq_true rfl, Nat.le_of_ble_eq_true rfl⟩) hl.1 rfl rfl (Nat.le_of_ble_eq_true rfl) dX7_made_10 ⟨Nat.zero_le _, Nat.zero_le _⟩ (fun H locs hH => ?_)
    refine lv_if_eq (tgt := 31) hx hb dX7_made_13 (by decide) (fun c8 => ?_) (fun c8 => ?_)
    · replace hf := ite_t c8 hf
      refine lv_iconst (v := (-1)) hx hb dX7_made_31 (by decide) ?_
      exact wk_iret S hr hlk hK hN hH hf dX7_made_32
    · replace hf := ite_f c8 hf
      refine lv_aload_n hx hb dX7_made_16 rfl (lv_at hl 0 rfl) ?_
      refine lv_aload_n hx hb dX7_made_17 rfl (lv_at hl 0 rfl) ?_
      refine wk_getr (ci := 6) (k := 2) S hK hH j_X7 t0 rfl hq_6_2 (hts _ (wU_in _ m_626)) dX7_made_18 ?_
      refine lv_iload_n hx hb dX7_made_21 rfl (lv_at hl 1 rfl) ?_
      refine lv_iload_n hx hb dX7_made_22 rfl (lv_at hl 2 rfl) ?_
      refine lv_bipush (v := 15) hx hb dX7_made_23 (by decide) ?_
      obtain ⟨r11, h10, hq9, hf⟩ := bnd_ok hf
      refine wk_callVi (ci := 6) (b := a0) (As := [.ref (X.2.2.2 (rF a0 2)), .int a1, .int a2, .int ((15 : Int32))]) (rest := []) S hK hN hH t0 (by decide) rfl (C_X7_madeBy l X hI t0 (tr_6_2 t0) a1 a2 (15 : Int32) _ _ _ hq9) (cwV 4 hts (gV wU_in m_773 m_775 m_18 m_41 m_776) rfl rfl rfl hdV_X7_madeBy ⟨Nat.le_of_ble_eq_true rfl, Nat.le_of_ble_eq_true rfl⟩) hl.1 rfl rfl (Nat.le_of_ble_eq_true rfl) dX7_made_25 ⟨Nat.zero_le _, Nat.zero_le _⟩ (fun H locs hH => ?_)
      refine lv_goto (tgt := 32) hx hb dX7_made_28 (by decide) ?_
      exact wk_iret S hr hlk hK hN hH hf dX7_made_32
set_option maxHeartbeats 4000000 in
set_option maxRecDepth 100000 in
theorem C_X7_step (l : Launch) (X : Cx) (hI : Inj X) {a0 : Nat} (t0 : tY a0 = 6) (a1 : Int32) (a2 : Int32) (a3 : Int32) (h : Hp) (r0 : Int32) (h0 : Hp) (hf : f_X7_step a0 a1 a2 a3 h = some (r0, h0)) : Mi l X yX7_step cX7_step 4 (some .int) 3 76 h [.ref (X.2.2.2 a0), .int a1, .int a2, .int a3] r0 h0 := by
  refine BD_of (own := RX7) hI rfl (by decide) (Nat.le_of_ble_eq_true rfl) ?_
  intro p e s m args below meth c S hr hlk hK hN
  obtain ⟨hx, hb, hml, hown, hts⟩ := id S
  intro H locs ls hl hH
  replace hl : lv_has ls 4 [(0, .ref (X.2.2.2 a0)), (1, .int a1), (2, .int a2), (3, .int a3)] := hl
  unfold f_X7_step at hf
  refine lv_aload_n hx hb dX7_step_0 rfl (lv_at hl 0 rfl) ?_
  refine lv_iload_n hx hb dX7_step_1 rfl (lv_at hl 1 rfl) ?_
  obtain ⟨r3, h2, hq1, hf⟩ := bnd_ok hf
  refine wk_callVi (ci := 6) (b := a0) (As := [.int a1]) (rest := []) S hK hN hH t0 (by decide) rfl (C_X7_isRoot l X hI t0 a1 _ _ _ hq1) (cwV 1 hts (gV wU_in m_818 m_820 m_23 m_41 m_821) rfl rfl rfl hdV_X7_isRoot ⟨Nat.le_of_ble_eq_true rfl, Nat.le_of_ble_eq_true rfl⟩) hl.1 rfl rfl (Nat.le_of_ble_eq_true rfl) dX7_step_2 ⟨Nat.zero_le _, Nat.zero_le _⟩ (fun H locs hH => ?_)
  refine lv_if_eq (tgt := 16) hx hb dX7_step_5 (by decide) (fun c4 => ?_) (fun c4 => ?_)
  · replace hf := ite_t c4 hf
    refine lv_iconst (v := (-1)) hx hb dX7_step_16 (by decide) ?_
    exact wk_iret S hr hlk hK hN hH hf dX7_step_17
  · replace hf := ite_f c4 hf
    refine lv_aload_n hx hb dX7_step_8 rfl (lv_at hl 0 rfl) ?_
    refine lv_iload_n hx hb dX7_step_9 rfl (lv_at hl 2 rfl) ?_
    obtain ⟨r7, h6, hq5, hf⟩ := bnd_ok hf
    refine wk_callVi (ci := 6) (b := a0) (As := [.int a2]) (rest := []) S hK hN hH t0 (by decide) rfl (C_X7_isEnding l X hI t0 a2 _ _ _ hq5) (cwV 1 hts (gV wU_in m_822 m_824 m_24 m_41 m_825) rfl rfl rfl hdV_X7_isEnding ⟨Nat.le_of_ble_eq_true rfl, Nat.le_of_ble_eq_true rfl⟩) hl.1 rfl rfl (Nat.le_of_ble_eq_true rfl) dX7_step_10 ⟨Nat.zero_le _, Nat.zero_le _⟩ (fun H locs hH => ?_)
    refine lv_if_ne (tgt := 18) hx hb dX7_step_13 (by decide) (fun c8 => ?_) (fun c8 => ?_)
    · replace hf := ite_f c8 hf
      refine lv_iload_n hx hb dX7_step_18 rfl (lv_at hl 3 rfl) ?_
      refine lv_i2l hx hb dX7_step_19 rfl ?_
      refine lv_lconst (v := 0) hx hb dX7_step_20 (by decide) ?_
      refine lv_aload_n hx hb dX7_step_21 rfl (lv_at hl 0 rfl) ?_
      refine wk_geti (ci := 6) (k := 13) S hK hH j_X7 t0 rfl hq_6_13 (hts _ (wU_in _ m_637)) dX7_step_22 ?_
      refine lv_i2l hx hb dX7_step_25 rfl ?_
      obtain ⟨r11, h10, hq9, hf⟩ := bnd_ok hf
      refine wk_callSi (As := [.long ((a3).toInt64), .long ((0 : Int64)), .long (((h6.1 a0 13)).toInt64)]) (rest := []) S hK hN hH (C_X7_in l X hI ((a3).toInt64) (0 : Int64) (((h6.1 a0 13)).toInt64) _ _ _ hq9) (va_cwS 3 hts (gS wU_in m_720 m_721 m_41 m_722) rfl rfl rfl hdS_X7_in ⟨Nat.le_of_ble_eq_true rfl, Nat.le_of_ble_eq_true rfl⟩) hl.1 rfl rfl (Nat.le_of_ble_eq_true rfl) dX7_step_26 ⟨Nat.zero_le _, Nat.zero_le _⟩ (fun H locs hH => ?_)
      refine lv_if_eq (tgt := 51) hx hb dX7_step_29 (by decide) (fun c12 => ?_) (fun c12 => ?_)
      · replace hf := ite_t c12 hf
        refine lv_bipush (v := (-2)) hx hb dX7_step_51 (by decide) ?_
        exact wk_iret S hr hlk hK hN hH hf dX7_step_53
      · replace hf := ite_f c12 hf
        refine lv_aload_n hx hb dX7_step_32 rfl (lv_at hl 0 rfl) ?_
        refine wk_getr (ci := 6) (k := 2) S hK hH j_X7 t0 rfl hq_6_2 (hts _ (wU_in _ m_626)) dX7_step_33 ?_
        refine lv_aload_n hx hb dX7_step_36 rfl (lv_at hl 0 rfl) ?_
        refine lv_iload_n hx hb dX7_step_37 rfl (lv_at hl 1 rfl) ?_
        refine lv_iload_n hx hb dX7_step_38 rfl (lv_at hl 2 rfl) ?_
        obtain ⟨r15, h14, hq13, hf⟩ := bnd_ok hf
        refine wk_callVi (ci := 6) (b := a0) (As := [.int a1, .int a2]) (rest := [.ref (X.2.2.2 (rF a0 2))]) S hK hN hH t0 (by decide) rfl (C_X7_raw l X hI t0 a1 a2 _ _ _ hq13) (cwV 2 hts (gV wU_in m_777 m_779 m_19 m_41 m_780) rfl rfl rfl hdV_X7_raw ⟨Nat.le_of_ble_eq_true rfl, Nat.le_of_ble_eq_true rfl⟩) hl.1 rfl rfl (Nat.le_of_ble_eq_true rfl) dX7_step_39 ⟨Nat.zero_le _, Nat.zero_le _⟩ (fun H locs hH => ?_)
        refine lv_iload_n hx hb dX7_step_42 rfl (lv_at hl 3 rfl) ?_
        refine lv_bipush (v := 15) hx hb dX7_step_43 (by decide) ?_
        obtain ⟨r18, h17, hq16, hf⟩ := bnd_ok hf
        refine wk_callSi (As := [.ref (X.2.2.2 (rF a0 2)), .int r15, .int a3, .int ((15 : Int32))]) (rest := []) S hK hN hH (C_X7_behindAll l X hI (tr_6_2 t0) r15 a3 (15 : Int32) _ _ _ hq16) (va_cwS 4 hts (gS wU_in m_790 m_791 m_41 m_792) rfl rfl rfl hdS_X7_behindAll ⟨Nat.le_of_ble_eq_true rfl, Nat.le_of_ble_eq_true rfl⟩) hl.1 rfl rfl (Nat.le_of_ble_eq_true rfl) dX7_step_45 ⟨Nat.zero_le _, Nat.zero_le _⟩ (fun H locs hH => ?_)
        refine lv_goto (tgt := 53) hx hb dX7_step_48 (by decide) ?_
        exact wk_iret S hr hlk hK hN hH hf dX7_step_53
    · replace hf := ite_t c8 hf
      refine lv_iconst (v := (-1)) hx hb dX7_step_16 (by decide) ?_
      exact wk_iret S hr hlk hK hN hH hf dX7_step_17
set_option maxHeartbeats 4000000 in
set_option maxRecDepth 100000 in
theorem C_X7_apart (l : Launch) (X : Cx) (hI : Inj X) {a0 : Nat} (t0 : tY a0 = 6) (a1 : Int32) (a2 : Int32) (h : Hp) (r0 : Int32) (h0 : Hp) (hf : f_X7_apart a0 a1 a2 h = some (r0, h0)) : Mi l X yX7_apart cX7_apart 8 (some .int) 4 100 h [.ref (X.2.2.2 a0), .int a1, .int a2] r0 h0 := by
  refine BD_of (own := RX7) hI rfl (by decide) (Nat.le_of_ble_eq_true rfl) ?_
  intro p e s m args below meth c S hr hlk hK hN
  obtain ⟨hx, hb, hml, hown, hts⟩ := id S
  have B108 : ∀ (k34 : Int32 → Int32 → Int32 → Hp → Option (Int32 × Hp)) (hk34 : ∀ (x3 : Int32) (x4 : Int32) (x5 : Int32) (h : Hp), k34 x3 x4 x5 h = some (r0, h0) → BK p l e ({ frames := 4, cells := 0, slots := 0, locals := 100 }) s m args below meth c (MQ below (cQi X r0 h0) args s 0 0 (AD X)) X 8 34 [(0, .ref (X.2.2.2 a0)), (1, .int a1), (2, .int a2), (3, .int x3), (4, .int x4), (5, .int x5)] [] h) (k47 : Int32 → Int32 → Int32 → Int32 → Hp → Option (Int32 × Hp)) (hk47 : ∀ (x3 : Int32) (x4 : Int32) (x5 : Int32) (x6 : Int32) (h : Hp), k47 x3 x4 x5 x6 h = some (r0, h0) → BK p l e ({ frames := 4, cells := 0, slots := 0, locals := 100 }) s m args below meth c (MQ below (cQi X r0 h0) args s 0 0 (AD X)) X 8 47 [(0, .ref (X.2.2.2 a0)), (1, .int a1), (2, .int a2), (3, .int x3), (4, .int x4), (5, .int x5), (6, .int x6)] [] h) (x3 : Int32) (x5 : Int32) (x6 : Int32) (z0 : Int32) (h : Hp), g_X7_apart_108 a0 a1 a2 k34 k47 x3 x5 x6 z0 h = some (r0, h0) → BK p l e ({ frames := 4, cells := 0, slots := 0, locals := 100 }) s m args below meth c (MQ below (cQi X r0 h0) args s 0 0 (AD X)) X 8 108 [(0, .ref (X.2.2.2 a0)), (1, .int a1), (2, .int a2), (3, .int x3), (5, .int x5), (6, .int x6)] [.int z0] h := by
    intro k34 hk34 k47 hk47 x3 x5 x6 z0 h hf H locs ls hl hH
    unfold g_X7_apart_108 at hf
    refine lv_istore (lv' := [(4, .int z0), (0, .ref (X.2.2.2 a0)), (1, .int a1), (2, .int a2), (3, .int x3), (5, .int x5), (6, .int x6)]) hx hb dX7_apart_108 hl (by decide) rfl (fun ls hl => ?_)
    refine lv_iinc (v := (x6 + (-1 : Int32))) (lv' := [(6, .int ((x6 + (-1 : Int32)))), (4, .int z0), (0, .ref (X.2.2.2 a0)), (1, .int a1), (2, .int a2), (3, .int x3), (5, .int x5)]) hx hb dX7_apart_110 hl (k := 6) rfl rfl (by decide) rfl (fun ls hl => ?_)
    refine lv_goto (tgt := 47) hx hb dX7_apart_113 (by decide) ?_
    exact hk47 _ _ _ _ _ hf H locs ls (lv_sub hl [2, 3, 4, 5, 1, 6, 0] rfl) hH
  have B88 : ∀ (k34 : Int32 → Int32 → Int32 → Hp → Option (Int32 × Hp)) (hk34 : ∀ (x3 : Int32) (x4 : Int32) (x5 : Int32) (h : Hp), k34 x3 x4 x5 h = some (r0, h0) → BK p l e ({ frames := 4, cells := 0, slots := 0, locals := 100 }) s m args below meth c (MQ below (cQi X r0 h0) args s 0 0 (AD X)) X 8 34 [(0, .ref (X.2.2.2 a0)), (1, .int a1), (2, .int a2), (3, .int x3), (4, .int x4), (5, .int x5)] [] h) (k47 : Int32 → Int32 → Int32 → Int32 → Hp → Option (Int32 × Hp)) (hk47 : ∀ (x3 : Int32) (x4 : Int32) (x5 : Int32) (x6 : Int32) (h : Hp), k47 x3 x4 x5 x6 h = some (r0, h0) → BK p l e ({ frames := 4, cells := 0, slots := 0, locals := 100 }) s m args below meth c (MQ below (cQi X r0 h0) args s 0 0 (AD X)) X 8 47 [(0, .ref (X.2.2.2 a0)), (1, .int a1), (2, .int a2), (3, .int x3), (4, .int x4), (5, .int x5), (6, .int x6)] [] h) (x4 : Int32) (x5 : Int32) (x6 : Int32) (x7 : Int32) (z0 : Int32) (z1 : Int32) (h : Hp), g_X7_apart_88 a0 a1 a2 k34 k47 x4 x5 x6 x7 z0 z1 h = some (r0, h0) → BK p l e ({ frames := 4, cells := 0, slots := 0, locals := 100 }) s m args below meth c (MQ below (cQi X r0 h0) args s 0 0 (AD X)) X 8 88 [(0, .ref (X.2.2.2 a0)), (1, .int a1), (2, .int a2), (4, .int x4), (5, .int x5), (6, .int x6), (7, .int x7)] [.int z1, .int z0] h := by
    intro k34 hk34 k47 hk47 x4 x5 x6 x7 z0 z1 h hf H locs ls hl hH
    unfold g_X7_apart_88 at hf
    refine lv_iadd hx hb dX7_apart_88 ?_
    refine lv_istore_n (lv' := [(3, .int ((z0 + z1))), (0, .ref (X.2.2.2 a0)), (1, .int a1), (2, .int a2), (4, .int x4), (5, .int x5), (6, .int x6), (7, .int x7)]) hx hb dX7_apart_89 rfl hl (by decide) rfl (fun ls hl => ?_)
    refine lv_iload hx hb dX7_apart_90 (lv_at hl 7 rfl) ?_
    refine lv_if_eq (tgt := 106) hx hb dX7_apart_92 (by decide) (fun c1 => ?_) (fun c1 => ?_)
    · replace hf := ite_t c1 hf
      refine lv_iload hx hb dX7_apart_106 (lv_at hl 4 rfl) ?_
      exact B108 k34 hk34 k47 hk47 _ _ _ _ _ hf H locs ls (lv_sub hl [1, 2, 3, 0, 5, 6] rfl) hH
    · replace hf := ite_f c1 hf
      refine lv_bipush (v := 10) hx hb dX7_apart_95 (by decide) ?_
      refine lv_iload hx hb dX7_apart_97 (lv_at hl 5 rfl) ?_
      refine lv_imul hx hb dX7_apart_99 ?_
      refine lv_iload hx hb dX7_apart_100 (lv_at hl 6 rfl) ?_
      refine lv_iadd hx hb dX7_apart_102 ?_
      refine lv_goto (tgt := 108) hx hb dX7_apart_103 (by decide) ?_
      exact B108 k34 hk34 k47 hk47 _ _ _ _ _ hf H locs ls (lv_sub hl [1, 2, 3, 0, 5, 6] rfl) hH
  have B75 : ∀ (k34 : Int32 → Int32 → Int32 → Hp → Option (Int32 × Hp)) (hk34 : ∀ (x3 : Int32) (x4 : Int32) (x5 : Int32) (h : Hp), k34 x3 x4 x5 h = some (r0, h0) → BK p l e ({ frames := 4, cells := 0, slots := 0, locals := 100 }) s m args below meth c (MQ below (cQi X r0 h0) args s 0 0 (AD X)) X 8 34 [(0, .ref (X.2.2.2 a0)), (1, .int a1), (2, .int a2), (3, .int x3), (4, .int x4), (5, .int x5)] [] h) (k47 : Int32 → Int32 → Int32 → Int32 → Hp → Option (Int32 × Hp)) (hk47 : ∀ (x3 : Int32) (x4 : Int32) (x5 : Int32) (x6 : Int32) (h : Hp), k47 x3 x4 x5 x6 h = some (r0, h0) → BK p l e ({ frames := 4, cells := 0, slots := 0, locals := 100 }) s m args below meth c (MQ below (cQi X r0 h0) args s 0 0 (AD X)) X 8 47 [(0, .ref (X.2.2.2 a0)), (1, .int a1), (2, .int a2), (3, .int x3), (4, .int x4), (5, .int x5), (6, .int x6)] [] h) (x3 : Int32) (x4 : Int32) (x5 : Int32) (x6 : Int32) (z0 : Int32) (h : Hp), g_X7_apart_75 a0 a1 a2 k34 k47 x3 x4 x5 x6 z0 h = some (r0, h0) → BK p l e ({ frames := 4, cells := 0, slots := 0, locals := 100 }) s m args below meth c (MQ below (cQi X r0 h0) args s 0 0 (AD X)) X 8 75 [(0, .ref (X.2.2.2 a0)), (1, .int a1), (2, .int a2), (3, .int x3), (4, .int x4), (5, .int x5), (6, .int x6)] [.int z0] h := by
    intro k34 hk34 k47 hk47 x3 x4 x5 x6 z0 h hf H locs ls hl hH
    unfold g_X7_apart_75 at hf
    refine lv_istore (lv' := [(7, .int z0), (0, .ref (X.2.2.2 a0)), (1, .int a1), (2, .int a2), (3, .int x3), (4, .int x4), (5, .int x5), (6, .int x6)]) hx hb dX7_apart_75 hl (by decide) rfl (fun ls hl => ?_)
    refine lv_iload_n hx hb dX7_apart_77 rfl (lv_at hl 4 rfl) ?_
    refine lv_iload hx hb dX7_apart_78 (lv_at hl 0 rfl) ?_
    refine lv_if_eq (tgt := 87) hx hb dX7_apart_80 (by decide) (fun c2 => ?_) (fun c2 => ?_)
    · replace hf := ite_t c2 hf
      refine lv_iconst (v := 0) hx hb dX7_apart_87 (by decide) ?_
      exact B88 k34 hk34 k47 hk47 _ _ _ _ _ _ _ hf H locs ls (lv_sub hl [1, 2, 3, 5, 6, 7, 0] rfl) hH
    · replace hf := ite_f c2 hf
      refine lv_iconst (v := 1) hx hb dX7_apart_83 (by decide) ?_
      refine lv_goto (tgt := 88) hx hb dX7_apart_84 (by decide) ?_
      exact B88 k34 hk34 k47 hk47 _ _ _ _ _ _ _ hf H locs ls (lv_sub hl [1, 2, 3, 5, 6, 7, 0] rfl) hH
  have B47 : ∀ (k34 : Int32 → Int32 → Int32 → Hp → Option (Int32 × Hp)) (hk34 : ∀ (x3 : Int32) (x4 : Int32) (x5 : Int32) (h : Hp), k34 x3 x4 x5 h = some (r0, h0) → BK p l e ({ frames := 4, cells := 0, slots := 0, locals := 100 }) s m args below meth c (MQ below (cQi X r0 h0) args s 0 0 (AD X)) X 8 34 [(0, .ref (X.2.2.2 a0)), (1, .int a1), (2, .int a2), (3, .int x3), (4, .int x4), (5, .int x5)] [] h) (k47 : Int32 → Int32 → Int32 → Int32 → Hp → Option (Int32 × Hp)) (hk47 : ∀ (x3 : Int32) (x4 : Int32) (x5 : Int32) (x6 : Int32) (h : Hp), k47 x3 x4 x5 x6 h = some (r0, h0) → BK p l e ({ frames := 4, cells := 0, slots := 0, locals := 100 }) s m args below meth c (MQ below (cQi X r0 h0) args s 0 0 (AD X)) X 8 47 [(0, .ref (X.2.2.2 a0)), (1, .int a1), (2, .int a2), (3, .int x3), (4, .int x4), (5, .int x5), (6, .int x6)] [] h) (x3 : Int32) (x4 : Int32) (x5 : Int32) (x6 : Int32) (h : Hp), g_X7_apart_47 a0 a1 a2 k34 k47 x3 x4 x5 x6 h = some (r0, h0) → BK p l e ({ frames := 4, cells := 0, slots := 0, locals := 100 }) s m args below meth c (MQ below (cQi X r0 h0) args s 0 0 (AD X)) X 8 47 [(0, .ref (X.2.2.2 a0)), (1, .int a1), (2, .int a2), (3, .int x3), (4, .int x4), (5, .int x5), (6, .int x6)] [] h := by
    intro k34 hk34 k47 hk47 x3 x4 x5 x6 h hf H locs ls hl hH
    unfold g_X7_apart_47 at hf
    refine lv_iload hx hb dX7_apart_47 (lv_at hl 6 rfl) ?_
    refine lv_if_lt (tgt := 116) hx hb dX7_apart_49 (by decide) (fun c3 => ?_) (fun c3 => ?_)
    · replace hf := ite_t c3 hf
      refine lv_iinc (v := (x5 + (-1 : Int32))) (lv' := [(5, .int ((x5 + (-1 : Int32)))), (0, .ref (X.2.2.2 a0)), (1, .int a1), (2, .int a2), (3, .int x3), (4, .int x4), (6, .int x6)]) hx hb dX7_apart_116 hl (k := 5) rfl rfl (by decide) rfl (fun ls hl => ?_)
      refine lv_goto (tgt := 34) hx hb dX7_apart_119 (by decide) ?_
      exact hk34 _ _ _ _ hf H locs ls (lv_sub hl [1, 2, 3, 4, 5, 0] rfl) hH
    · replace hf := ite_f c3 hf
      refine lv_aload_n hx hb dX7_apart_52 rfl (lv_at hl 0 rfl) ?_
      refine lv_aload_n hx hb dX7_apart_53 rfl (lv_at hl 0 rfl) ?_
      refine wk_getr (ci := 6) (k := 2) S hK hH j_X7 t0 rfl hq_6_2 (hts _ (wU_in _ m_626)) dX7_apart_54 ?_
      refine lv_iload hx hb dX7_apart_57 (lv_at hl 5 rfl) ?_
      refine lv_iload hx hb dX7_apart_59 (lv_at hl 6 rfl) ?_
      refine lv_bipush (v := 15) hx hb dX7_apart_61 (by decide) ?_
      obtain ⟨r6, h5, hq4, hf⟩ := bnd_ok hf
      refine wk_callVi (ci := 6) (b := a0) (As := [.ref (X.2.2.2 (rF a0 2)), .int x5, .int x6, .int ((15 : Int32))]) (rest := []) S hK hN hH t0 (by decide) rfl (C_X7_madeBy l X hI t0 (tr_6_2 t0) x5 x6 (15 : Int32) _ _ _ hq4) (cwV 4 hts (gV wU_in m_773 m_775 m_18 m_41 m_776) rfl rfl rfl hdV_X7_madeBy ⟨Nat.le_of_ble_eq_true rfl, Nat.le_of_ble_eq_true rfl⟩) hl.1 rfl rfl (Nat.le_of_ble_eq_true rfl) dX7_apart_63 ⟨Nat.zero_le _, Nat.zero_le _⟩ (fun H locs hH => ?_)
      refine lv_iload_n hx hb dX7_apart_66 rfl (lv_at hl 1 rfl) ?_
      refine lv_icmp_ne (tgt := 74) hx hb dX7_apart_67 (by decide) (fun c7 => ?_) (fun c7 => ?_)
      · replace hf := ite_f c7 hf
        refine lv_iconst (v := 0) hx hb dX7_apart_74 (by decide) ?_
        exact B75 k34 hk34 k47 hk47 _ _ _ _ _ _ hf H locs ls (lv_sub hl [0, 1, 2, 3, 4, 5, 6] rfl) hH
      · replace hf := ite_t c7 hf
        refine lv_iconst (v := 1) hx hb dX7_apart_70 (by decide) ?_
        refine lv_goto (tgt := 75) hx hb dX7_apart_71 (by decide) ?_
        exact B75 k34 hk34 k47 hk47 _ _ _ _ _ _ hf H locs ls (lv_sub hl [0, 1, 2, 3, 4, 5, 6] rfl) hH
  have BL47 : ∀ (k34 : Int32 → Int32 → Int32 → Hp → Option (Int32 × Hp)) (hk34 : ∀ (x3 : Int32) (x4 : Int32) (x5 : Int32) (h : Hp), k34 x3 x4 x5 h = some (r0, h0) → BK p l e ({ frames := 4, cells := 0, slots := 0, locals := 100 }) s m args below meth c (MQ below (cQi X r0 h0) args s 0 0 (AD X)) X 8 34 [(0, .ref (X.2.2.2 a0)), (1, .int a1), (2, .int a2), (3, .int x3), (4, .int x4), (5, .int x5)] [] h) (n : Nat) (x3 : Int32) (x4 : Int32) (x5 : Int32) (x6 : Int32) (h : Hp), f_X7_apart_47 a0 a1 a2 k34 n x3 x4 x5 x6 h = some (r0, h0) → BK p l e ({ frames := 4, cells := 0, slots := 0, locals := 100 }) s m args below meth c (MQ below (cQi X r0 h0) args s 0 0 (AD X)) X 8 47 [(0, .ref (X.2.2.2 a0)), (1, .int a1), (2, .int a2), (3, .int x3), (4, .int x4), (5, .int x5), (6, .int x6)] [] h := by
    intro k34 hk34 n
    induction n with
    | zero => intro x3 x4 x5 x6 h hf; cases hf
    | succ n ih => intro x3 x4 x5 x6 h hf; exact B47 k34 hk34 _ ih _ _ _ _ _ hf
  have B34 : ∀ (k34 : Int32 → Int32 → Int32 → Hp → Option (Int32 × Hp)) (hk34 : ∀ (x3 : Int32) (x4 : Int32) (x5 : Int32) (h : Hp), k34 x3 x4 x5 h = some (r0, h0) → BK p l e ({ frames := 4, cells := 0, slots := 0, locals := 100 }) s m args below meth c (MQ below (cQi X r0 h0) args s 0 0 (AD X)) X 8 34 [(0, .ref (X.2.2.2 a0)), (1, .int a1), (2, .int a2), (3, .int x3), (4, .int x4), (5, .int x5)] [] h) (x3 : Int32) (x4 : Int32) (x5 : Int32) (h : Hp), g_X7_apart_34 a0 a1 a2 k34 x3 x4 x5 h = some (r0, h0) → BK p l e ({ frames := 4, cells := 0, slots := 0, locals := 100 }) s m args below meth c (MQ below (cQi X r0 h0) args s 0 0 (AD X)) X 8 34 [(0, .ref (X.2.2.2 a0)), (1, .int a1), (2, .int a2), (3, .int x3), (4, .int x4), (5, .int x5)] [] h := by
    intro k34 hk34 x3 x4 x5 h hf H locs ls hl hH
    unfold g_X7_apart_34 at hf
    refine lv_iload hx hb dX7_apart_34 (lv_at hl 5 rfl) ?_
    refine lv_if_lt (tgt := 122) hx hb dX7_apart_36 (by decide) (fun c8 => ?_) (fun c8 => ?_)
    · replace hf := ite_t c8 hf
      refine lv_iload_n hx hb dX7_apart_122 rfl (lv_at hl 2 rfl) ?_
      refine lv_if_ne (tgt := 130) hx hb dX7_apart_123 (by decide) (fun c9 => ?_) (fun c9 => ?_)
      · replace hf := ite_f c9 hf
        refine lv_iload hx hb dX7_apart_130 (lv_at hl 4 rfl) ?_
        exact wk_iret S hr hlk hK hN hH hf dX7_apart_132
      · replace hf := ite_t c9 hf
        refine lv_iload_n hx hb dX7_apart_126 rfl (lv_at hl 3 rfl) ?_
        refine lv_goto (tgt := 132) hx hb dX7_apart_127 (by decide) ?_
        exact wk_iret S hr hlk hK hN hH hf dX7_apart_132
    · replace hf := ite_f c8 hf
      refine lv_aload_n hx hb dX7_apart_39 rfl (lv_at hl 0 rfl) ?_
      refine wk_geti (ci := 6) (k := 12) S hK hH j_X7 t0 rfl hq_6_12 (hts _ (wU_in _ m_636)) dX7_apart_40 ?_
      refine lv_iconst (v := 1) hx hb dX7_apart_43 (by decide) ?_
      refine lv_isub hx hb dX7_apart_44 ?_
      refine lv_istore (lv' := [(6, .int (((h.1 a0 12) - (1 : Int32)))), (0, .ref (X.2.2.2 a0)), (1, .int a1), (2, .int a2), (3, .int x3), (4, .int x4), (5, .int x5)]) hx hb dX7_apart_45 hl (by decide) rfl (fun ls hl => ?_)
      exact BL47 k34 hk34 FU _ _ _ _ _ hf H locs ls (lv_sub hl [1, 2, 3, 4, 5, 6, 0] rfl) hH
  have BL34 : ∀ (n : Nat) (x3 : Int32) (x4 : Int32) (x5 : Int32) (h : Hp), f_X7_apart_34 a0 a1 a2 n x3 x4 x5 h = some (r0, h0) → BK p l e ({ frames := 4, cells := 0, slots := 0, locals := 100 }) s m args below meth c (MQ below (cQi X r0 h0) args s 0 0 (AD X)) X 8 34 [(0, .ref (X.2.2.2 a0)), (1, .int a1), (2, .int a2), (3, .int x3), (4, .int x4), (5, .int x5)] [] h := by
    intro n
    induction n with
    | zero => intro x3 x4 x5 h hf; cases hf
    | succ n ih => intro x3 x4 x5 h hf; exact B34 _ ih _ _ _ _ hf
  intro H locs ls hl hH
  replace hl : lv_has ls 8 [(0, .ref (X.2.2.2 a0)), (1, .int a1), (2, .int a2)] := hl
  unfold f_X7_apart at hf
  refine lv_iload_n hx hb dX7_apart_0 rfl (lv_at hl 1 rfl) ?_
  obtain ⟨r12, h11, hq10, hf⟩ := bnd_ok hf
  refine wk_callSi (As := [.int a1]) (rest := []) S hK hN hH (C_X7_isWord l X hI a1 _ _ _ hq10) (va_cwS 1 hts (gS wU_in m_851 m_852 m_41 m_853) rfl rfl rfl hdS_X7_isWord ⟨Nat.le_of_ble_eq_true rfl, Nat.le_of_ble_eq_true rfl⟩) hl.1 rfl rfl (Nat.le_of_ble_eq_true rfl) dX7_apart_1 ⟨Nat.zero_le _, Nat.zero_le _⟩ (fun H locs hH => ?_)
  refine lv_if_eq (tgt := 17) hx hb dX7_apart_4 (by decide) (fun c13 => ?_) (fun c13 => ?_)
  · replace hf := ite_t c13 hf
    refine lv_bipush (v := (-2)) hx hb dX7_apart_17 (by decide) ?_
    exact wk_iret S hr hlk hK hN hH hf dX7_apart_19
  · replace hf := ite_f c13 hf
    refine lv_iload_n hx hb dX7_apart_7 rfl (lv_at hl 2 rfl) ?_
    refine lv_i2l hx hb dX7_apart_8 rfl ?_
    refine lv_lconst (v := 0) hx hb dX7_apart_9 (by decide) ?_
    refine lv_lconst (v := 1) hx hb dX7_apart_10 (by decide) ?_
    obtain ⟨r16, h15, hq14, hf⟩ := bnd_ok hf
    refine wk_callSi (As := [.long ((a2).toInt64), .long ((0 : Int64)), .long ((1 : Int64))]) (rest := []) S hK hN hH (C_X7_in l X hI ((a2).toInt64) (0 : Int64) (1 : Int64) _ _ _ hq14) (va_cwS 3 hts (gS wU_in m_720 m_721 m_41 m_722) rfl rfl rfl hdS_X7_in ⟨Nat.le_of_ble_eq_true rfl, Nat.le_of_ble_eq_true rfl⟩) hl.1 rfl rfl (Nat.le_of_ble_eq_true rfl) dX7_apart_11 ⟨Nat.zero_le _, Nat.zero_le _⟩ (fun H locs hH => ?_)
    refine lv_if_ne (tgt := 20) hx hb dX7_apart_14 (by decide) (fun c17 => ?_) (fun c17 => ?_)
    · replace hf := ite_f c17 hf
      refine lv_iconst (v := 0) hx hb dX7_apart_20 (by decide) ?_
      refine lv_istore_n (lv' := [(3, .int ((0 : Int32))), (0, .ref (X.2.2.2 a0)), (1, .int a1), (2, .int a2)]) hx hb dX7_apart_21 rfl hl (by decide) rfl (fun ls hl => ?_)
      refine lv_bipush (v := (-9)) hx hb dX7_apart_22 (by decide) ?_
      refine lv_istore (lv' := [(4, .int ((-9 : Int32))), (3, .int ((0 : Int32))), (0, .ref (X.2.2.2 a0)), (1, .int a1), (2, .int a2)]) hx hb dX7_apart_24 hl (by decide) rfl (fun ls hl => ?_)
      refine lv_aload_n hx hb dX7_apart_26 rfl (lv_at hl 2 rfl) ?_
      refine wk_geti (ci := 6) (k := 11) S hK hH j_X7 t0 rfl hq_6_11 (hts _ (wU_in _ m_635)) dX7_apart_27 ?_
      refine lv_iconst (v := 1) hx hb dX7_apart_30 (by decide) ?_
      refine lv_isub hx hb dX7_apart_31 ?_
      refine lv_istore (lv' := [(5, .int (((h15.1 a0 11) - (1 : Int32)))), (4, .int ((-9 : Int32))), (3, .int ((0 : Int32))), (0, .ref (X.2.2.2 a0)), (1, .int a1), (2, .int a2)]) hx hb dX7_apart_32 hl (by decide) rfl (fun ls hl => ?_)
      exact BL34 FU _ _ _ _ hf H locs ls (lv_sub hl [3, 4, 5, 2, 1, 0] rfl) hH
    · replace hf := ite_t c17 hf
      refine lv_bipush (v := (-2)) hx hb dX7_apart_17 (by decide) ?_
      exact wk_iret S hr hlk hK hN hH hf dX7_apart_19
set_option maxHeartbeats 4000000 in
set_option maxRecDepth 100000 in
theorem C_X7_form (l : Launch) (X : Cx) (hI : Inj X) {a0 : Nat} (t0 : tY a0 = 6) (a1 : Int32) (a2 : Int32) (h : Hp) (r0 : Int32) (h0 : Hp) (hf : f_X7_form a0 a1 a2 h = some (r0, h0)) : Mi l X yX7_form cX7_form 3 (some .int) 2 46 h [.ref (X.2.2.2 a0), .int a1, .int a2] r0 h0 := by
  refine BD_of (own := RX7) hI rfl (by decide) (Nat.le_of_ble_eq_true rfl) ?_
  intro p e s m args below meth c S hr hlk hK hN
  obtain ⟨hx, hb, hml, hown, hts⟩ := id S
  intro H locs ls hl hH
  replace hl : lv_has ls 3 [(0, .ref (X.2.2.2 a0)), (1, .int a1), (2, .int a2)] := hl
  unfold f_X7_form at hf
  refine lv_aload_n hx hb dX7_form_0 rfl (lv_at hl 0 rfl) ?_
  refine lv_iload_n hx hb dX7_form_1 rfl (lv_at hl 1 rfl) ?_
  obtain ⟨r3, h2, hq1, hf⟩ := bnd_ok hf
  refine wk_callVi (ci := 6) (b := a0) (As := [.int a1]) (rest := []) S hK hN hH t0 (by decide) rfl (C_X7_isRoot l X hI t0 a1 _ _ _ hq1) (cwV 1 hts (gV wU_in m_818 m_820 m_23 m_41 m_821) rfl rfl rfl hdV_X7_isRoot ⟨Nat.le_of_ble_eq_true rfl, Nat.le_of_ble_eq_true rfl⟩) hl.1 rfl rfl (Nat.le_of_ble_eq_true rfl) dX7_form_2 ⟨Nat.zero_le _, Nat.zero_le _⟩ (fun H locs hH => ?_)
  refine lv_if_eq (tgt := 32) hx hb dX7_form_5 (by decide) (fun c4 => ?_) (fun c4 => ?_)
  · replace hf := ite_t c4 hf
    refine lv_iconst (v := (-1)) hx hb dX7_form_32 (by decide) ?_
    exact wk_iret S hr hlk hK hN hH hf dX7_form_33
  · replace hf := ite_f c4 hf
    refine lv_aload_n hx hb dX7_form_8 rfl (lv_at hl 0 rfl) ?_
    refine lv_iload_n hx hb dX7_form_9 rfl (lv_at hl 2 rfl) ?_
    obtain ⟨r7, h6, hq5, hf⟩ := bnd_ok hf
    refine wk_callVi (ci := 6) (b := a0) (As := [.int a2]) (rest := []) S hK hN hH t0 (by decide) rfl (C_X7_isEnding l X hI t0 a2 _ _ _ hq5) (cwV 1 hts (gV wU_in m_822 m_824 m_24 m_41 m_825) rfl rfl rfl hdV_X7_isEnding ⟨Nat.le_of_ble_eq_true rfl, Nat.le_of_ble_eq_true rfl⟩) hl.1 rfl rfl (Nat.le_of_ble_eq_true rfl) dX7_form_10 ⟨Nat.zero_le _, Nat.zero_le _⟩ (fun H locs hH => ?_)
    refine lv_if_eq (tgt := 32) hx hb dX7_form_13 (by decide) (fun c8 => ?_) (fun c8 => ?_)
    · replace hf := ite_t c8 hf
      refine lv_iconst (v := (-1)) hx hb dX7_form_32 (by decide) ?_
      exact wk_iret S hr hlk hK hN hH hf dX7_form_33
    · replace hf := ite_f c8 hf
      refine lv_aload_n hx hb dX7_form_16 rfl (lv_at hl 0 rfl) ?_
      refine wk_getr (ci := 6) (k := 2) S hK hH j_X7 t0 rfl hq_6_2 (hts _ (wU_in _ m_626)) dX7_form_17 ?_
      refine lv_bipush (v := 20) hx hb dX7_form_20 (by decide) ?_
      refine lv_iconst (v := 3) hx hb dX7_form_22 (by decide) ?_
      refine lv_iload_n hx hb dX7_form_23 rfl (lv_at hl 1 rfl) ?_
      refine lv_imul hx hb dX7_form_24 ?_
      refine lv_iadd hx hb dX7_form_25 ?_
      refine lv_iload_n hx hb dX7_form_26 rfl (lv_at hl 2 rfl) ?_
      refine lv_iadd hx hb dX7_form_27 ?_
      obtain ⟨o9, hf⟩ := ite_ok hf
      refine wk_iald S hK hH (tr_6_2 t0) o9 dX7_form_28 ?_
      refine lv_goto (tgt := 33) hx hb dX7_form_29 (by decide) ?_
      exact wk_iret S hr hlk hK hN hH hf dX7_form_33
set_option maxHeartbeats 4000000 in
set_option maxRecDepth 100000 in
theorem C_X7_noteDoing (l : Launch) (X : Cx) (hI : Inj X) {a0 : Nat} (t0 : tY a0 = 6) (h : Hp) (h0 : Hp) (hf : f_X7_noteDoing a0 h = some h0) : Mv l X yX7_noteDoing cX7_noteDoing 2 none 0 0 h [.ref (X.2.2.2 a0)] h0 := by
  refine BD_of (own := RX7) hI rfl (by decide) (Nat.le_of_ble_eq_true rfl) ?_
  intro p e s m args below meth c S hr hlk hK hN
  obtain ⟨hx, hb, hml, hown, hts⟩ := id S
  have B2 : ∀ (k2 : Int32 → Hp → Option Hp) (hk2 : ∀ (x1 : Int32) (h : Hp), k2 x1 h = some h0 → BK p l e ({ frames := 0, cells := 0, slots := 0, locals := 0 }) s m args below meth c (MQ below (cQv X h0) args s 0 0 (AD X)) X 2 2 [(0, .ref (X.2.2.2 a0)), (1, .int x1)] [] h) (x1 : Int32) (h : Hp), g_X7_noteDoing_2 a0 k2 x1 h = some h0 → BK p l e ({ frames := 0, cells := 0, slots := 0, locals := 0 }) s m args below meth c (MQ below (cQv X h0) args s 0 0 (AD X)) X 2 2 [(0, .ref (X.2.2.2 a0)), (1, .int x1)] [] h := by
    intro k2 hk2 x1 h hf H locs ls hl hH
    unfold g_X7_noteDoing_2 at hf
    refine lv_iload_n hx hb dX7_noteDoing_2 rfl (lv_at hl 1 rfl) ?_
    refine lv_bipush (v := 32) hx hb dX7_noteDoing_3 (by decide) ?_
    refine lv_icmp_ge (tgt := 34) hx hb dX7_noteDoing_5 (by decide) (fun c1 => ?_) (fun c1 => ?_)
    · replace hf := ite_t c1 hf
      refine lv_aload_n hx hb dX7_noteDoing_34 rfl (lv_at hl 0 rfl) ?_
      refine lv_aload_n hx hb dX7_noteDoing_35 rfl (lv_at hl 0 rfl) ?_
      refine wk_geti (ci := 6) (k := 6) S hK hH j_X7 t0 rfl hq_6_6 (hts _ (wU_in _ m_630)) dX7_noteDoing_36 ?_
      refine lv_iconst (v := 1) hx hb dX7_noteDoing_39 (by decide) ?_
      refine lv_iadd hx hb dX7_noteDoing_40 ?_
      refine lv_bipush (v := 14) hx hb dX7_noteDoing_41 (by decide) ?_
      refine lv_irem hx hb dX7_noteDoing_43 (by decide) ?_
      refine wk_puti (ci := 6) (k := 6) S hK hH j_X7 tyX7 tyX7_ok nmX7 t0 rfl hq_6_6 rfl hd_6_6 (hts _ (wU_in _ m_630)) dX7_noteDoing_44 (fun H locs hH => ?_)
      refine lv_aload_n hx hb dX7_noteDoing_47 rfl (lv_at hl 0 rfl) ?_
      refine lv_aload_n hx hb dX7_noteDoing_48 rfl (lv_at hl 0 rfl) ?_
      refine wk_geti (ci := 6) (k := 5) S hK hH j_X7 t0 rfl hq_6_5 (hts _ (wU_in _ m_629)) dX7_noteDoing_49 ?_
      refine lv_bipush (v := 14) hx hb dX7_noteDoing_52 (by decide) ?_
      refine lv_icmp_ge (tgt := 66) hx hb dX7_noteDoing_54 (by decide) (fun c2 => ?_) (fun c2 => ?_)
      · replace hf := ite_t c2 hf
        refine lv_bipush (v := 14) hx hb dX7_noteDoing_66 (by decide) ?_
        refine wk_puti (ci := 6) (k := 5) S hK hH j_X7 tyX7 tyX7_ok nmX7 t0 rfl hq_6_5 rfl hd_6_5 (hts _ (wU_in _ m_629)) dX7_noteDoing_68 (fun H locs hH => ?_)
        exact wk_vret S hr hlk hK hN hH hf dX7_noteDoing_71
      · replace hf := ite_f c2 hf
        refine lv_aload_n hx hb dX7_noteDoing_57 rfl (lv_at hl 0 rfl) ?_
        refine wk_geti (ci := 6) (k := 5) S hK hH j_X7 t0 rfl hq_6_5 (hts _ (wU_in _ m_629)) dX7_noteDoing_58 ?_
        refine lv_iconst (v := 1) hx hb dX7_noteDoing_61 (by decide) ?_
        refine lv_iadd hx hb dX7_noteDoing_62 ?_
        refine lv_goto (tgt := 68) hx hb dX7_noteDoing_63 (by decide) ?_
        refine wk_puti (ci := 6) (k := 5) S hK hH j_X7 tyX7 tyX7_ok nmX7 t0 rfl hq_6_5 rfl hd_6_5 (hts _ (wU_in _ m_629)) dX7_noteDoing_68 (fun H locs hH => ?_)
        exact wk_vret S hr hlk hK hN hH hf dX7_noteDoing_71
    · replace hf := ite_f c1 hf
      refine lv_aload_n hx hb dX7_noteDoing_8 rfl (lv_at hl 0 rfl) ?_
      refine wk_getr (ci := 6) (k := 4) S hK hH j_X7 t0 rfl hq_6_4 (hts _ (wU_in _ m_628)) dX7_noteDoing_9 ?_
      refine lv_bipush (v := 32) hx hb dX7_noteDoing_12 (by decide) ?_
      refine lv_aload_n hx hb dX7_noteDoing_14 rfl (lv_at hl 0 rfl) ?_
      refine wk_geti (ci := 6) (k := 6) S hK hH j_X7 t0 rfl hq_6_6 (hts _ (wU_in _ m_630)) dX7_noteDoing_15 ?_
      refine lv_imul hx hb dX7_noteDoing_18 ?_
      refine lv_iload_n hx hb dX7_noteDoing_19 rfl (lv_at hl 1 rfl) ?_
      refine lv_iadd hx hb dX7_noteDoing_20 ?_
      refine lv_aload_n hx hb dX7_noteDoing_21 rfl (lv_at hl 0 rfl) ?_
      refine wk_getr (ci := 6) (k := 2) S hK hH j_X7 t0 rfl hq_6_2 (hts _ (wU_in _ m_626)) dX7_noteDoing_22 ?_
      refine lv_iload_n hx hb dX7_noteDoing_25 rfl (lv_at hl 1 rfl) ?_
      obtain ⟨o3, hf⟩ := ite_ok hf
      refine wk_iald S hK hH (tr_6_2 t0) o3 dX7_noteDoing_26 ?_
      obtain ⟨o4, hf⟩ := ite_ok hf
      refine wk_iast S hK hH (tr_6_4 t0) o4 dX7_noteDoing_27 (fun H locs hH => ?_)
      refine lv_iinc (v := (x1 + (1 : Int32))) (lv' := [(1, .int ((x1 + (1 : Int32)))), (0, .ref (X.2.2.2 a0))]) hx hb dX7_noteDoing_28 hl (k := 1) rfl rfl (by decide) rfl (fun ls hl => ?_)
      refine lv_goto (tgt := 2) hx hb dX7_noteDoing_31 (by decide) ?_
      exact hk2 _ _ hf H locs ls (lv_sub hl [1, 0] rfl) hH
  have BL2 : ∀ (n : Nat) (x1 : Int32) (h : Hp), f_X7_noteDoing_2 a0 n x1 h = some h0 → BK p l e ({ frames := 0, cells := 0, slots := 0, locals := 0 }) s m args below meth c (MQ below (cQv X h0) args s 0 0 (AD X)) X 2 2 [(0, .ref (X.2.2.2 a0)), (1, .int x1)] [] h := by
    intro n
    induction n with
    | zero => intro x1 h hf; cases hf
    | succ n ih => intro x1 h hf; exact B2 _ ih _ _ hf
  intro H locs ls hl hH
  replace hl : lv_has ls 2 [(0, .ref (X.2.2.2 a0))] := hl
  unfold f_X7_noteDoing at hf
  refine lv_iconst (v := 0) hx hb dX7_noteDoing_0 (by decide) ?_
  refine lv_istore_n (lv' := [(1, .int ((0 : Int32))), (0, .ref (X.2.2.2 a0))]) hx hb dX7_noteDoing_1 rfl hl (by decide) rfl (fun ls hl => ?_)
  exact BL2 FU _ _ hf H locs ls (lv_sub hl [1, 0] rfl) hH
set_option maxHeartbeats 4000000 in
set_option maxRecDepth 100000 in
theorem C_X7_swapOn (l : Launch) (X : Cx) (hI : Inj X) {a0 : Nat} (t0 : tY a0 = 100) (a1 : Int32) (a2 : Int32) (h : Hp) (h0 : Hp) (hf : f_X7_swapOn a0 a1 a2 h = some h0) : Mv l X yX7_swapOn cX7_swapOn 4 none 0 0 h [.ref (X.2.2.2 a0), .int a1, .int a2] h0 := by
  refine BD_of (own := RX7) hI rfl (by decide) (Nat.le_of_ble_eq_true rfl) ?_
  intro p e s m args below meth c S hr hlk hK hN
  obtain ⟨hx, hb, hml, hown, hts⟩ := id S
  intro H locs ls hl hH
  replace hl : lv_has ls 4 [(0, .ref (X.2.2.2 a0)), (1, .int a1), (2, .int a2)] := hl
  unfold f_X7_swapOn at hf
  refine lv_aload_n hx hb dX7_swapOn_0 rfl (lv_at hl 0 rfl) ?_
  refine lv_iload_n hx hb dX7_swapOn_1 rfl (lv_at hl 1 rfl) ?_
  obtain ⟨o1, hf⟩ := ite_ok hf
  refine wk_iald S hK hH t0 o1 dX7_swapOn_2 ?_
  refine lv_istore_n (lv' := [(3, .int ((h.1 a0 (a1).toNatClampNeg))), (0, .ref (X.2.2.2 a0)), (1, .int a1), (2, .int a2)]) hx hb dX7_swapOn_3 rfl hl (by decide) rfl (fun ls hl => ?_)
  refine lv_aload_n hx hb dX7_swapOn_4 rfl (lv_at hl 1 rfl) ?_
  refine lv_iload_n hx hb dX7_swapOn_5 rfl (lv_at hl 2 rfl) ?_
  refine lv_aload_n hx hb dX7_swapOn_6 rfl (lv_at hl 1 rfl) ?_
  refine lv_iload_n hx hb dX7_swapOn_7 rfl (lv_at hl 3 rfl) ?_
  obtain ⟨o2, hf⟩ := ite_ok hf
  refine wk_iald S hK hH t0 o2 dX7_swapOn_8 ?_
  obtain ⟨o3, hf⟩ := ite_ok hf
  refine wk_iast S hK hH t0 o3 dX7_swapOn_9 (fun H locs hH => ?_)
  refine lv_aload_n hx hb dX7_swapOn_10 rfl (lv_at hl 1 rfl) ?_
  refine lv_iload_n hx hb dX7_swapOn_11 rfl (lv_at hl 3 rfl) ?_
  refine lv_iload_n hx hb dX7_swapOn_12 rfl (lv_at hl 0 rfl) ?_
  obtain ⟨o4, hf⟩ := ite_ok hf
  refine wk_iast S hK hH t0 o4 dX7_swapOn_13 (fun H locs hH => ?_)
  exact wk_vret S hr hlk hK hN hH hf dX7_swapOn_14
set_option maxHeartbeats 4000000 in
set_option maxRecDepth 100000 in
theorem C_X7_isSign (l : Launch) (X : Cx) (hI : Inj X) (a0 : Int32) (a1 : Int32) (h : Hp) (r0 : Int32) (h0 : Hp) (hf : f_X7_isSign a0 a1 h = some (r0, h0)) : Mi l X yX7_isSign cX7_isSign 2 (some .boolean) 1 25 h [.int a0, .int a1] r0 h0 := by
  refine BD_of (own := RX7) hI rfl (by decide) (Nat.le_of_ble_eq_true rfl) ?_
  intro p e s m args below meth c S hr hlk hK hN
  obtain ⟨hx, hb, hml, hown, hts⟩ := id S
  intro H locs ls hl hH
  replace hl : lv_has ls 2 [(0, .int a0), (1, .int a1)] := hl
  unfold f_X7_isSign at hf
  refine lv_iload_n hx hb dX7_isSign_0 rfl (lv_at hl 0 rfl) ?_
  by_cases c1 : a0 = 0
  · replace hf := ite_t c1 hf
    refine lv_tableIn (off := 31) (tgt := 32) hx hb dX7_isSign_1 (by rw [c1]; decide) (by rw [c1]; decide) (by rw [c1]; decide) (by decide) ?_
    refine lv_iload_n hx hb dX7_isSign_32 rfl (lv_at hl 1 rfl) ?_
    refine lv_i2l hx hb dX7_isSign_33 rfl ?_
    refine lv_lconst (v := 1) hx hb dX7_isSign_34 (by decide) ?_
    refine lv_ldc2 hx hb hown (hts _ (wU_in _ m_855)) dX7_isSign_35 ?_
    obtain ⟨r4, h3, hq2, hf⟩ := bnd_ok hf
    refine wk_callSi (As := [.long ((a1).toInt64), .long ((1 : Int64)), .long ((5 : Int64))]) (rest := []) S hK hN hH (C_X7_in l X hI ((a1).toInt64) (1 : Int64) (5 : Int64) _ _ _ hq2) (va_cwS 3 hts (gS wU_in m_720 m_721 m_41 m_722) rfl rfl rfl hdS_X7_in ⟨Nat.le_of_ble_eq_true rfl, Nat.le_of_ble_eq_true rfl⟩) hl.1 rfl rfl (Nat.le_of_ble_eq_true rfl) dX7_isSign_38 ⟨Nat.zero_le _, Nat.zero_le _⟩ (fun H locs hH => ?_)
    obtain ⟨o5, hf⟩ := ite_ok hf
    exact wk_zret S hr hlk hK hN hH (okZ_nar o5) hf dX7_isSign_41
  replace hf := ite_f c1 hf
  by_cases c6 : a0 = 1
  · replace hf := ite_t c6 hf
    refine lv_tableIn (off := 41) (tgt := 42) hx hb dX7_isSign_1 (by rw [c6]; decide) (by rw [c6]; decide) (by rw [c6]; decide) (by decide) ?_
    refine lv_iload_n hx hb dX7_isSign_42 rfl (lv_at hl 1 rfl) ?_
    refine lv_i2l hx hb dX7_isSign_43 rfl ?_
    refine lv_lconst (v := 0) hx hb dX7_isSign_44 (by decide) ?_
    refine lv_ldc2 hx hb hown (hts _ (wU_in _ m_855)) dX7_isSign_45 ?_
    obtain ⟨r9, h8, hq7, hf⟩ := bnd_ok hf
    refine wk_callSi (As := [.long ((a1).toInt64), .long ((0 : Int64)), .long ((5 : Int64))]) (rest := []) S hK hN hH (C_X7_in l X hI ((a1).toInt64) (0 : Int64) (5 : Int64) _ _ _ hq7) (va_cwS 3 hts (gS wU_in m_720 m_721 m_41 m_722) rfl rfl rfl hdS_X7_in ⟨Nat.le_of_ble_eq_true rfl, Nat.le_of_ble_eq_true rfl⟩) hl.1 rfl rfl (Nat.le_of_ble_eq_true rfl) dX7_isSign_48 ⟨Nat.zero_le _, Nat.zero_le _⟩ (fun H locs hH => ?_)
    obtain ⟨o10, hf⟩ := ite_ok hf
    exact wk_zret S hr hlk hK hN hH (okZ_nar o10) hf dX7_isSign_51
  replace hf := ite_f c6 hf
  by_cases c11 : a0 = 2
  · replace hf := ite_t c11 hf
    refine lv_tableIn (off := 51) (tgt := 52) hx hb dX7_isSign_1 (by rw [c11]; decide) (by rw [c11]; decide) (by rw [c11]; decide) (by decide) ?_
    refine lv_iload_n hx hb dX7_isSign_52 rfl (lv_at hl 1 rfl) ?_
    refine lv_i2l hx hb dX7_isSign_53 rfl ?_
    refine lv_lconst (v := 1) hx hb dX7_isSign_54 (by decide) ?_
    refine lv_ldc2 hx hb hown (hts _ (wU_in _ m_878)) dX7_isSign_55 ?_
    obtain ⟨r14, h13, hq12, hf⟩ := bnd_ok hf
    refine wk_callSi (As := [.long ((a1).toInt64), .long ((1 : Int64)), .long ((7 : Int64))]) (rest := []) S hK hN hH (C_X7_in l X hI ((a1).toInt64) (1 : Int64) (7 : Int64) _ _ _ hq12) (va_cwS 3 hts (gS wU_in m_720 m_721 m_41 m_722) rfl rfl rfl hdS_X7_in ⟨Nat.le_of_ble_eq_true rfl, Nat.le_of_ble_eq_true rfl⟩) hl.1 rfl rfl (Nat.le_of_ble_eq_true rfl) dX7_isSign_58 ⟨Nat.zero_le _, Nat.zero_le _⟩ (fun H locs hH => ?_)
    obtain ⟨o15, hf⟩ := ite_ok hf
    exact wk_zret S hr hlk hK hN hH (okZ_nar o15) hf dX7_isSign_61
  replace hf := ite_f c11 hf
  by_cases c16 : a0 = 3
  · replace hf := ite_t c16 hf
    refine lv_tableIn (off := 61) (tgt := 62) hx hb dX7_isSign_1 (by rw [c16]; decide) (by rw [c16]; decide) (by rw [c16]; decide) (by decide) ?_
    refine lv_iload_n hx hb dX7_isSign_62 rfl (lv_at hl 1 rfl) ?_
    refine lv_i2l hx hb dX7_isSign_63 rfl ?_
    refine lv_lconst (v := 1) hx hb dX7_isSign_64 (by decide) ?_
    refine lv_ldc2 hx hb hown (hts _ (wU_in _ m_878)) dX7_isSign_65 ?_
    obtain ⟨r19, h18, hq17, hf⟩ := bnd_ok hf
    refine wk_callSi (As := [.long ((a1).toInt64), .long ((1 : Int64)), .long ((7 : Int64))]) (rest := []) S hK hN hH (C_X7_in l X hI ((a1).toInt64) (1 : Int64) (7 : Int64) _ _ _ hq17) (va_cwS 3 hts (gS wU_in m_720 m_721 m_41 m_722) rfl rfl rfl hdS_X7_in ⟨Nat.le_of_ble_eq_true rfl, Nat.le_of_ble_eq_true rfl⟩) hl.1 rfl rfl (Nat.le_of_ble_eq_true rfl) dX7_isSign_68 ⟨Nat.zero_le _, Nat.zero_le _⟩ (fun H locs hH => ?_)
    obtain ⟨o20, hf⟩ := ite_ok hf
    exact wk_zret S hr hlk hK hN hH (okZ_nar o20) hf dX7_isSign_71
  replace hf := ite_f c16 hf
  have ec1 := lv_neT (a := 0) c1 (by decide)
  have ec6 := lv_neT (a := 1) c6 (by decide)
  have ec11 := lv_neT (a := 2) c11 (by decide)
  have ec16 := lv_neT (a := 3) c16 (by decide)
  refine lv_tableOut (tgt := 72) hx hb dX7_isSign_1 (by omega) (by decide) ?_
  refine lv_iconst (v := 0) hx hb dX7_isSign_72 (by decide) ?_
  exact wk_zret S hr hlk hK hN hH rfl hf dX7_isSign_73
