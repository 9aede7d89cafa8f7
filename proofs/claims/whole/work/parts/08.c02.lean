set_option maxHeartbeats 4000000 in
set_option maxRecDepth 100000 in
theorem C_X3_read (l : Launch) (X : Cx) (hI : Inj X) {a0 : Nat} (t0 : tY a0 = 3) (h : Hp) (h0 : Hp) (hf : f_X3_read a0 h = some h0) : Mv l X yX3_read cX3_read 5 none 4 86 h [.ref (X.2.2.2 a0)] h0 := by
  refine BD_of (own := RX3) hI rfl (by decide) (Nat.le_of_ble_eq_true rfl) ?_
  intro p e s m args below meth c S hr hlk hK hN
  obtain ⟨hx, hb, hml, hown, hts⟩ := id S
  have B91 : ∀ (k6 : Int32 → Hp → Option Hp) (hk6 : ∀ (x1 : Int32) (h : Hp), k6 x1 h = some h0 → BK p l e ({ frames := 4, cells := 0, slots := 0, locals := 86 }) s m args below meth c (MQ below (cQv X h0) args s 0 0 (AD X)) X 5 6 [(0, .ref (X.2.2.2 a0)), (1, .int x1)] [] h) (x1 : Int32) (x3 : Int32) (z0 : Int32) (h : Hp), g_X3_read_91 a0 k6 x1 x3 z0 h = some h0 → BK p l e ({ frames := 4, cells := 0, slots := 0, locals := 86 }) s m args below meth c (MQ below (cQv X h0) args s 0 0 (AD X)) X 5 91 [(0, .ref (X.2.2.2 a0)), (1, .int x1), (3, .int x3)] [.int z0] h := by
    intro k6 hk6 x1 x3 z0 h hf H locs ls hl hH
    unfold g_X3_read_91 at hf
    refine lv_istore (lv' := [(4, .int z0), (0, .ref (X.2.2.2 a0)), (1, .int x1), (3, .int x3)]) hx hb dX3_read_91 hl (by decide) rfl (fun ls hl => ?_)
    refine lv_iload hx hb dX3_read_93 (lv_at hl 0 rfl) ?_
    refine lv_if_ne (tgt := 109) hx hb dX3_read_95 (by decide) (fun c1 => ?_) (fun c1 => ?_)
    · replace hf := ite_f c1 hf
      refine lv_iinc (v := (x1 + (1 : Int32))) (lv' := [(1, .int ((x1 + (1 : Int32)))), (4, .int z0), (0, .ref (X.2.2.2 a0)), (3, .int x3)]) hx hb dX3_read_109 hl (k := 2) rfl rfl (by decide) rfl (fun ls hl => ?_)
      refine lv_goto (tgt := 6) hx hb dX3_read_112 (by decide) ?_
      exact hk6 _ _ hf H locs ls (lv_sub hl [2, 0] rfl) hH
    · replace hf := ite_t c1 hf
      refine lv_aload_n hx hb dX3_read_98 rfl (lv_at hl 1 rfl) ?_
      refine lv_iload_n hx hb dX3_read_99 rfl (lv_at hl 2 rfl) ?_
      refine wk_puti (ci := 3) (k := 9) S hK hH j_X3 tyX3 tyX3_ok nmX3 t0 rfl hq_3_9 rfl hd_3_9 (hts _ (wU_in _ m_77)) dX3_read_100 (fun H locs hH => ?_)
      refine lv_aload_n hx hb dX3_read_103 rfl (lv_at hl 1 rfl) ?_
      refine lv_iload_n hx hb dX3_read_104 rfl (lv_at hl 3 rfl) ?_
      refine wk_puti (ci := 3) (k := 10) S hK hH j_X3 tyX3 tyX3_ok nmX3 t0 rfl hq_3_10 rfl hd_3_10 (hts _ (wU_in _ m_79)) dX3_read_105 (fun H locs hH => ?_)
      exact wk_vret S hr hlk hK hN hH hf dX3_read_108
  have B63 : ∀ (k6 : Int32 → Hp → Option Hp) (hk6 : ∀ (x1 : Int32) (h : Hp), k6 x1 h = some h0 → BK p l e ({ frames := 4, cells := 0, slots := 0, locals := 86 }) s m args below meth c (MQ below (cQv X h0) args s 0 0 (AD X)) X 5 6 [(0, .ref (X.2.2.2 a0)), (1, .int x1)] [] h) (x1 : Int32) (x2 : Int32) (z0 : Int32) (h : Hp), g_X3_read_63 a0 k6 x1 x2 z0 h = some h0 → BK p l e ({ frames := 4, cells := 0, slots := 0, locals := 86 }) s m args below meth c (MQ below (cQv X h0) args s 0 0 (AD X)) X 5 63 [(0, .ref (X.2.2.2 a0)), (1, .int x1), (2, .int x2)] [.int z0] h := by
    intro k6 hk6 x1 x2 z0 h hf H locs ls hl hH
    unfold g_X3_read_63 at hf
    refine lv_istore_n (lv' := [(3, .int z0), (0, .ref (X.2.2.2 a0)), (1, .int x1), (2, .int x2)]) hx hb dX3_read_63 rfl hl (by decide) rfl (fun ls hl => ?_)
    refine lv_iload_n hx hb dX3_read_64 rfl (lv_at hl 3 rfl) ?_
    refine lv_if_eq (tgt := 81) hx hb dX3_read_65 (by decide) (fun c2 => ?_) (fun c2 => ?_)
    · replace hf := ite_t c2 hf
      refine lv_aload_n hx hb dX3_read_81 rfl (lv_at hl 1 rfl) ?_
      refine lv_aload_n hx hb dX3_read_82 rfl (lv_at hl 1 rfl) ?_
      refine wk_getr (ci := 3) (k := 0) S hK hH j_X3 t0 rfl hq_3_0 (hts _ (wU_in _ m_60)) dX3_read_83 ?_
      refine lv_iload_n hx hb dX3_read_86 rfl (lv_at hl 2 rfl) ?_
      obtain ⟨o3, hf⟩ := ite_ok hf
      refine wk_iald S hK hH (tr_3_0 t0) o3 dX3_read_87 ?_
      obtain ⟨r6, h5, hq4, hf⟩ := bnd_ok hf
      refine wk_callVi (ci := 3) (b := a0) (As := [.int ((h.1 (rF a0 0) (x1).toNatClampNeg))]) (rest := []) S hK hN hH t0 (by decide) rfl (C_X3_beginPart l X hI t0 (h.1 (rF a0 0) (x1).toNatClampNeg) _ _ _ hq4) (cwV 1 hts (gV wU_in m_297 m_299 m_6 m_36 m_300) rfl rfl rfl hdV_X3_beginPart ⟨Nat.le_of_ble_eq_true rfl, Nat.le_of_ble_eq_true rfl⟩) hl.1 rfl rfl (Nat.le_of_ble_eq_true rfl) dX3_read_88 ⟨Nat.zero_le _, Nat.zero_le _⟩ (fun H locs hH => ?_)
      exact B91 k6 hk6 _ _ _ _ hf H locs ls (lv_sub hl [1, 2, 0] rfl) hH
    · replace hf := ite_f c2 hf
      refine lv_aload_n hx hb dX3_read_68 rfl (lv_at hl 1 rfl) ?_
      refine lv_aload_n hx hb dX3_read_69 rfl (lv_at hl 1 rfl) ?_
      refine wk_getr (ci := 3) (k := 0) S hK hH j_X3 t0 rfl hq_3_0 (hts _ (wU_in _ m_60)) dX3_read_70 ?_
      refine lv_iload_n hx hb dX3_read_73 rfl (lv_at hl 2 rfl) ?_
      obtain ⟨o7, hf⟩ := ite_ok hf
      refine wk_iald S hK hH (tr_3_0 t0) o7 dX3_read_74 ?_
      obtain ⟨r10, h9, hq8, hf⟩ := bnd_ok hf
      refine wk_callVi (ci := 3) (b := a0) (As := [.int ((h.1 (rF a0 0) (x1).toNatClampNeg))]) (rest := []) S hK hN hH t0 (by decide) rfl (C_X3_goOnWith l X hI t0 (h.1 (rF a0 0) (x1).toNatClampNeg) _ _ _ hq8) (cwV 1 hts (gV wU_in m_279 m_281 m_3 m_36 m_282) rfl rfl rfl hdV_X3_goOnWith ⟨Nat.le_of_ble_eq_true rfl, Nat.le_of_ble_eq_true rfl⟩) hl.1 rfl rfl (Nat.le_of_ble_eq_true rfl) dX3_read_75 ⟨Nat.zero_le _, Nat.zero_le _⟩ (fun H locs hH => ?_)
      refine lv_goto (tgt := 91) hx hb dX3_read_78 (by decide) ?_
      exact B91 k6 hk6 _ _ _ _ hf H locs ls (lv_sub hl [1, 2, 0] rfl) hH
  have B45 : ∀ (k6 : Int32 → Hp → Option Hp) (hk6 : ∀ (x1 : Int32) (h : Hp), k6 x1 h = some h0 → BK p l e ({ frames := 4, cells := 0, slots := 0, locals := 86 }) s m args below meth c (MQ below (cQv X h0) args s 0 0 (AD X)) X 5 6 [(0, .ref (X.2.2.2 a0)), (1, .int x1)] [] h) (x1 : Int32) (z0 : Int32) (h : Hp), g_X3_read_45 a0 k6 x1 z0 h = some h0 → BK p l e ({ frames := 4, cells := 0, slots := 0, locals := 86 }) s m args below meth c (MQ below (cQv X h0) args s 0 0 (AD X)) X 5 45 [(0, .ref (X.2.2.2 a0)), (1, .int x1)] [.int z0] h := by
    intro k6 hk6 x1 z0 h hf H locs ls hl hH
    unfold g_X3_read_45 at hf
    refine lv_istore_n (lv' := [(2, .int z0), (0, .ref (X.2.2.2 a0)), (1, .int x1)]) hx hb dX3_read_45 rfl hl (by decide) rfl (fun ls hl => ?_)
    refine lv_iload_n hx hb dX3_read_46 rfl (lv_at hl 0 rfl) ?_
    refine lv_if_eq (tgt := 59) hx hb dX3_read_47 (by decide) (fun c11 => ?_) (fun c11 => ?_)
    · replace hf := ite_t c11 hf
      refine lv_aload_n hx hb dX3_read_59 rfl (lv_at hl 1 rfl) ?_
      refine wk_geti (ci := 3) (k := 8) S hK hH j_X3 t0 rfl hq_3_8 (hts _ (wU_in _ m_75)) dX3_read_60 ?_
      exact B63 k6 hk6 _ _ _ _ hf H locs ls (lv_sub hl [1, 2, 0] rfl) hH
    · replace hf := ite_f c11 hf
      refine lv_aload_n hx hb dX3_read_50 rfl (lv_at hl 1 rfl) ?_
      refine wk_geti (ci := 3) (k := 8) S hK hH j_X3 t0 rfl hq_3_8 (hts _ (wU_in _ m_75)) dX3_read_51 ?_
      refine lv_iconst (v := 1) hx hb dX3_read_54 (by decide) ?_
      refine lv_isub hx hb dX3_read_55 ?_
      refine lv_goto (tgt := 63) hx hb dX3_read_56 (by decide) ?_
      exact B63 k6 hk6 _ _ _ _ hf H locs ls (lv_sub hl [1, 2, 0] rfl) hH
  have B40 : ∀ (k6 : Int32 → Hp → Option Hp) (hk6 : ∀ (x1 : Int32) (h : Hp), k6 x1 h = some h0 → BK p l e ({ frames := 4, cells := 0, slots := 0, locals := 86 }) s m args below meth c (MQ below (cQv X h0) args s 0 0 (AD X)) X 5 6 [(0, .ref (X.2.2.2 a0)), (1, .int x1)] [] h) (x1 : Int32) (h : Hp), g_X3_read_40 a0 k6 x1 h = some h0 → BK p l e ({ frames := 4, cells := 0, slots := 0, locals := 86 }) s m args below meth c (MQ below (cQv X h0) args s 0 0 (AD X)) X 5 40 [(0, .ref (X.2.2.2 a0)), (1, .int x1)] [] h := by
    intro k6 hk6 x1 h hf H locs ls hl hH
    unfold g_X3_read_40 at hf
    refine lv_iconst (v := 1) hx hb dX3_read_40 (by decide) ?_
    refine lv_goto (tgt := 45) hx hb dX3_read_41 (by decide) ?_
    exact B45 k6 hk6 _ _ _ hf H locs ls (lv_sub hl [0, 1] rfl) hH
  have B44 : ∀ (k6 : Int32 → Hp → Option Hp) (hk6 : ∀ (x1 : Int32) (h : Hp), k6 x1 h = some h0 → BK p l e ({ frames := 4, cells := 0, slots := 0, locals := 86 }) s m args below meth c (MQ below (cQv X h0) args s 0 0 (AD X)) X 5 6 [(0, .ref (X.2.2.2 a0)), (1, .int x1)] [] h) (x1 : Int32) (h : Hp), g_X3_read_44 a0 k6 x1 h = some h0 → BK p l e ({ frames := 4, cells := 0, slots := 0, locals := 86 }) s m args below meth c (MQ below (cQv X h0) args s 0 0 (AD X)) X 5 44 [(0, .ref (X.2.2.2 a0)), (1, .int x1)] [] h := by
    intro k6 hk6 x1 h hf H locs ls hl hH
    unfold g_X3_read_44 at hf
    refine lv_iconst (v := 0) hx hb dX3_read_44 (by decide) ?_
    exact B45 k6 hk6 _ _ _ hf H locs ls (lv_sub hl [0, 1] rfl) hH
  have B132 : ∀ (z0 : Nat) (tz0 : tY z0 = 3) (z1 : Int32) (h : Hp), g_X3_read_132 a0 z0 z1 h = some h0 → BK p l e ({ frames := 4, cells := 0, slots := 0, locals := 86 }) s m args below meth c (MQ below (cQv X h0) args s 0 0 (AD X)) X 5 132 [(0, .ref (X.2.2.2 a0))] [.int z1, .ref (X.2.2.2 z0)] h := by
    intro z0 tz0 z1 h hf H locs ls hl hH
    unfold g_X3_read_132 at hf
    refine wk_puti (ci := 3) (k := 9) S hK hH j_X3 tyX3 tyX3_ok nmX3 tz0 rfl hq_3_9 rfl hd_3_9 (hts _ (wU_in _ m_77)) dX3_read_132 (fun H locs hH => ?_)
    refine lv_aload_n hx hb dX3_read_135 rfl (lv_at hl 0 rfl) ?_
    refine lv_aload_n hx hb dX3_read_136 rfl (lv_at hl 0 rfl) ?_
    obtain ⟨r14, h13, hq12, hf⟩ := bnd_ok hf
    refine wk_callVi (ci := 3) (b := a0) (As := []) (rest := [.ref (X.2.2.2 a0)]) S hK hN hH t0 (by decide) rfl (C_X3_needsMore l X hI t0 _ _ _ hq12) (cwV 0 hts (gV wU_in m_268 m_270 m_1 m_36 m_271) rfl rfl rfl hdV_X3_needsMore ⟨Nat.le_of_ble_eq_true rfl, Nat.le_of_ble_eq_true rfl⟩) hl.1 rfl rfl (Nat.le_of_ble_eq_true rfl) dX3_read_137 ⟨Nat.zero_le _, Nat.zero_le _⟩ (fun H locs hH => ?_)
    refine lv_if_eq (tgt := 152) hx hb dX3_read_140 (by decide) (fun c15 => ?_) (fun c15 => ?_)
    · replace hf := ite_t c15 hf
      refine lv_bipush (v := (-9)) hx hb dX3_read_152 (by decide) ?_
      refine wk_puti (ci := 3) (k := 10) S hK hH j_X3 tyX3 tyX3_ok nmX3 t0 rfl hq_3_10 rfl hd_3_10 (hts _ (wU_in _ m_79)) dX3_read_154 (fun H locs hH => ?_)
      exact wk_vret S hr hlk hK hN hH hf dX3_read_157
    · replace hf := ite_f c15 hf
      refine lv_aload_n hx hb dX3_read_143 rfl (lv_at hl 0 rfl) ?_
      refine wk_geti (ci := 3) (k := 8) S hK hH j_X3 t0 rfl hq_3_8 (hts _ (wU_in _ m_75)) dX3_read_144 ?_
      refine lv_iconst (v := 1) hx hb dX3_read_147 (by decide) ?_
      refine lv_isub hx hb dX3_read_148 ?_
      refine lv_goto (tgt := 154) hx hb dX3_read_149 (by decide) ?_
      refine wk_puti (ci := 3) (k := 10) S hK hH j_X3 tyX3 tyX3_ok nmX3 t0 rfl hq_3_10 rfl hd_3_10 (hts _ (wU_in _ m_79)) dX3_read_154 (fun H locs hH => ?_)
      exact wk_vret S hr hlk hK hN hH hf dX3_read_157
  have B6 : ∀ (k6 : Int32 → Hp → Option Hp) (hk6 : ∀ (x1 : Int32) (h : Hp), k6 x1 h = some h0 → BK p l e ({ frames := 4, cells := 0, slots := 0, locals := 86 }) s m args below meth c (MQ below (cQv X h0) args s 0 0 (AD X)) X 5 6 [(0, .ref (X.2.2.2 a0)), (1, .int x1)] [] h) (x1 : Int32) (h : Hp), g_X3_read_6 a0 k6 x1 h = some h0 → BK p l e ({ frames := 4, cells := 0, slots := 0, locals := 86 }) s m args below meth c (MQ below (cQv X h0) args s 0 0 (AD X)) X 5 6 [(0, .ref (X.2.2.2 a0)), (1, .int x1)] [] h := by
    intro k6 hk6 x1 h hf H locs ls hl hH
    unfold g_X3_read_6 at hf
    refine lv_iload_n hx hb dX3_read_6 rfl (lv_at hl 1 rfl) ?_
    refine lv_aload_n hx hb dX3_read_7 rfl (lv_at hl 0 rfl) ?_
    refine wk_geti (ci := 3) (k := 1) S hK hH j_X3 t0 rfl hq_3_1 (hts _ (wU_in _ m_61)) dX3_read_8 ?_
    refine lv_icmp_ge (tgt := 115) hx hb dX3_read_11 (by decide) (fun c16 => ?_) (fun c16 => ?_)
    · replace hf := ite_t c16 hf
      refine lv_aload_n hx hb dX3_read_115 rfl (lv_at hl 0 rfl) ?_
      refine lv_aload_n hx hb dX3_read_116 rfl (lv_at hl 0 rfl) ?_
      obtain ⟨r19, h18, hq17, hf⟩ := bnd_ok hf
      refine wk_callVi (ci := 3) (b := a0) (As := []) (rest := [.ref (X.2.2.2 a0)]) S hK hN hH t0 (by decide) rfl (C_X3_needsMore l X hI t0 _ _ _ hq17) (cwV 0 hts (gV wU_in m_268 m_270 m_1 m_36 m_271) rfl rfl rfl hdV_X3_needsMore ⟨Nat.le_of_ble_eq_true rfl, Nat.le_of_ble_eq_true rfl⟩) hl.1 rfl rfl (Nat.le_of_ble_eq_true rfl) dX3_read_117 ⟨Nat.zero_le _, Nat.zero_le _⟩ (fun H locs hH => ?_)
      refine lv_if_eq (tgt := 130) hx hb dX3_read_120 (by decide) (fun c20 => ?_) (fun c20 => ?_)
      · replace hf := ite_t c20 hf
        refine lv_bipush (v := (-9)) hx hb dX3_read_130 (by decide) ?_
        exact B132 _ t0 _ _ hf H locs ls (lv_sub hl [0] rfl) hH
      · replace hf := ite_f c20 hf
        refine lv_aload_n hx hb dX3_read_123 rfl (lv_at hl 0 rfl) ?_
        refine wk_geti (ci := 3) (k := 1) S hK hH j_X3 t0 rfl hq_3_1 (hts _ (wU_in _ m_61)) dX3_read_124 ?_
        refine lv_goto (tgt := 132) hx hb dX3_read_127 (by decide) ?_
        exact B132 _ t0 _ _ hf H locs ls (lv_sub hl [0] rfl) hH
    · replace hf := ite_f c16 hf
      refine lv_aload_n hx hb dX3_read_14 rfl (lv_at hl 0 rfl) ?_
      obtain ⟨r23, h22, hq21, hf⟩ := bnd_ok hf
      refine wk_callVi (ci := 3) (b := a0) (As := []) (rest := []) S hK hN hH t0 (by decide) rfl (C_X3_needsMore l X hI t0 _ _ _ hq21) (cwV 0 hts (gV wU_in m_268 m_270 m_1 m_36 m_271) rfl rfl rfl hdV_X3_needsMore ⟨Nat.le_of_ble_eq_true rfl, Nat.le_of_ble_eq_true rfl⟩) hl.1 rfl rfl (Nat.le_of_ble_eq_true rfl) dX3_read_15 ⟨Nat.zero_le _, Nat.zero_le _⟩ (fun H locs hH => ?_)
      refine lv_if_ne (tgt := 40) hx hb dX3_read_18 (by decide) (fun c24 => ?_) (fun c24 => ?_)
      · replace hf := ite_f c24 hf
        exact B40 k6 hk6 _ _ hf H locs ls (lv_sub hl [0, 1] rfl) hH
      · replace hf := ite_t c24 hf
        refine lv_aload_n hx hb dX3_read_21 rfl (lv_at hl 0 rfl) ?_
        obtain ⟨r27, h26, hq25, hf⟩ := bnd_ok hf
        refine wk_callVi (ci := 3) (b := a0) (As := []) (rest := []) S hK hN hH t0 (by decide) rfl (C_X3_isOfLetters l X hI t0 _ _ _ hq25) (cwV 0 hts (gV wU_in m_272 m_274 m_2 m_36 m_275) rfl rfl rfl hdV_X3_isOfLetters ⟨Nat.le_of_ble_eq_true rfl, Nat.le_of_ble_eq_true rfl⟩) hl.1 rfl rfl (Nat.le_of_ble_eq_true rfl) dX3_read_22 ⟨Nat.zero_le _, Nat.zero_le _⟩ (fun H locs hH => ?_)
        refine lv_if_eq (tgt := 44) hx hb dX3_read_25 (by decide) (fun c28 => ?_) (fun c28 => ?_)
        · replace hf := ite_t c28 hf
          exact B44 k6 hk6 _ _ hf H locs ls (lv_sub hl [0, 1] rfl) hH
        · replace hf := ite_f c28 hf
          refine lv_aload_n hx hb dX3_read_28 rfl (lv_at hl 0 rfl) ?_
          refine wk_getr (ci := 3) (k := 0) S hK hH j_X3 t0 rfl hq_3_0 (hts _ (wU_in _ m_60)) dX3_read_29 ?_
          refine lv_iload_n hx hb dX3_read_32 rfl (lv_at hl 1 rfl) ?_
          obtain ⟨o29, hf⟩ := ite_ok hf
          refine wk_iald S hK hH (tr_3_0 t0) o29 dX3_read_33 ?_
          obtain ⟨r32, h31, hq30, hf⟩ := bnd_ok hf
          refine wk_callSi (As := [.int ((h26.1 (rF a0 0) (x1).toNatClampNeg))]) (rest := []) S hK hN hH (C_X3_isLetter l X hI (h26.1 (rF a0 0) (x1).toNatClampNeg) _ _ _ hq30) (va_cwS 1 hts (gS wU_in m_276 m_277 m_36 m_278) rfl rfl rfl hdS_X3_isLetter ⟨Nat.le_of_ble_eq_true rfl, Nat.le_of_ble_eq_true rfl⟩) hl.1 rfl rfl (Nat.le_of_ble_eq_true rfl) dX3_read_34 ⟨Nat.zero_le _, Nat.zero_le _⟩ (fun H locs hH => ?_)
          refine lv_if_eq (tgt := 44) hx hb dX3_read_37 (by decide) (fun c33 => ?_) (fun c33 => ?_)
          · replace hf := ite_t c33 hf
            exact B44 k6 hk6 _ _ hf H locs ls (lv_sub hl [0, 1] rfl) hH
          · replace hf := ite_f c33 hf
            exact B40 k6 hk6 _ _ hf H locs ls (lv_sub hl [0, 1] rfl) hH
  have BL6 : ∀ (n : Nat) (x1 : Int32) (h : Hp), f_X3_read_6 a0 n x1 h = some h0 → BK p l e ({ frames := 4, cells := 0, slots := 0, locals := 86 }) s m args below meth c (MQ below (cQv X h0) args s 0 0 (AD X)) X 5 6 [(0, .ref (X.2.2.2 a0)), (1, .int x1)] [] h := by
    intro n
    induction n with
    | zero => intro x1 h hf; cases hf
    | succ n ih => intro x1 h hf; exact B6 _ ih _ _ hf
  intro H locs ls hl hH
  replace hl : lv_has ls 5 [(0, .ref (X.2.2.2 a0))] := hl
  unfold f_X3_read at hf
  refine lv_aload_n hx hb dX3_read_0 rfl (lv_at hl 0 rfl) ?_
  obtain ⟨h35, hq34, hf⟩ := bind_ok hf
  refine wk_callVv (ci := 3) (b := a0) (As := []) (rest := []) S hK hN hH t0 (by decide) rfl (C_X3_beginReading l X hI t0 _ _ hq34) (cwV 0 hts (gV wU_in m_264 m_266 m_0 m_36 m_267) rfl rfl rfl hdV_X3_beginReading ⟨Nat.le_of_ble_eq_true rfl, Nat.le_of_ble_eq_true rfl⟩) hl.1 rfl rfl (Nat.le_of_ble_eq_true rfl) dX3_read_1 ⟨Nat.zero_le _, Nat.zero_le _⟩ (fun H locs hH => ?_)
  refine lv_iconst (v := 0) hx hb dX3_read_4 (by decide) ?_
  refine lv_istore_n (lv' := [(1, .int ((0 : Int32))), (0, .ref (X.2.2.2 a0))]) hx hb dX3_read_5 rfl hl (by decide) rfl (fun ls hl => ?_)
  exact BL6 FU _ _ hf H locs ls (lv_sub hl [1, 0] rfl) hH
set_option maxHeartbeats 4000000 in
set_option maxRecDepth 100000 in
theorem C_X4_orderByNumber (l : Launch) (X : Cx) (hI : Inj X) {a0 : Nat} (t0 : tY a0 = 4) (h : Hp) (h0 : Hp) (hf : f_X4_orderByNumber a0 h = some h0) : Mv l X yX4_orderByNumber cX4_orderByNumber 2 none 0 0 h [.ref (X.2.2.2 a0)] h0 := by
  refine BD_of (own := RX4) hI rfl (by decide) (Nat.le_of_ble_eq_true rfl) ?_
  intro p e s m args below meth c S hr hlk hK hN
  obtain ⟨hx, hb, hml, hown, hts⟩ := id S
  have B2 : ∀ (k2 : Int32 → Hp → Option Hp) (hk2 : ∀ (x1 : Int32) (h : Hp), k2 x1 h = some h0 → BK p l e ({ frames := 0, cells := 0, slots := 0, locals := 0 }) s m args below meth c (MQ below (cQv X h0) args s 0 0 (AD X)) X 2 2 [(0, .ref (X.2.2.2 a0)), (1, .int x1)] [] h) (x1 : Int32) (h : Hp), g_X4_orderByNumber_2 a0 k2 x1 h = some h0 → BK p l e ({ frames := 0, cells := 0, slots := 0, locals := 0 }) s m args below meth c (MQ below (cQv X h0) args s 0 0 (AD X)) X 2 2 [(0, .ref (X.2.2.2 a0)), (1, .int x1)] [] h := by
    intro k2 hk2 x1 h hf H locs ls hl hH
    unfold g_X4_orderByNumber_2 at hf
    refine lv_iload_n hx hb dX4_orderByNumber_2 rfl (lv_at hl 1 rfl) ?_
    refine lv_iconst (v := 4) hx hb dX4_orderByNumber_3 (by decide) ?_
    refine lv_icmp_ge (tgt := 20) hx hb dX4_orderByNumber_4 (by decide) (fun c1 => ?_) (fun c1 => ?_)
    · replace hf := ite_t c1 hf
      exact wk_vret S hr hlk hK hN hH hf dX4_orderByNumber_20
    · replace hf := ite_f c1 hf
      refine lv_aload_n hx hb dX4_orderByNumber_7 rfl (lv_at hl 0 rfl) ?_
      refine wk_getr (ci := 4) (k := 2) S hK hH j_X4 t0 rfl hq_4_2 (hts _ (wU_in _ m_145)) dX4_orderByNumber_8 ?_
      refine lv_iload_n hx hb dX4_orderByNumber_11 rfl (lv_at hl 1 rfl) ?_
      refine lv_iload_n hx hb dX4_orderByNumber_12 rfl (lv_at hl 1 rfl) ?_
      obtain ⟨o2, hf⟩ := ite_ok hf
      refine wk_iast S hK hH (tr_4_2 t0) o2 dX4_orderByNumber_13 (fun H locs hH => ?_)
      refine lv_iinc (v := (x1 + (1 : Int32))) (lv' := [(1, .int ((x1 + (1 : Int32)))), (0, .ref (X.2.2.2 a0))]) hx hb dX4_orderByNumber_14 hl (k := 1) rfl rfl (by decide) rfl (fun ls hl => ?_)
      refine lv_goto (tgt := 2) hx hb dX4_orderByNumber_17 (by decide) ?_
      exact hk2 _ _ hf H locs ls (lv_sub hl [1, 0] rfl) hH
  have BL2 : ∀ (n : Nat) (x1 : Int32) (h : Hp), f_X4_orderByNumber_2 a0 n x1 h = some h0 → BK p l e ({ frames := 0, cells := 0, slots := 0, locals := 0 }) s m args below meth c (MQ below (cQv X h0) args s 0 0 (AD X)) X 2 2 [(0, .ref (X.2.2.2 a0)), (1, .int x1)] [] h := by
    intro n
    induction n with
    | zero => intro x1 h hf; cases hf
    | succ n ih => intro x1 h hf; exact B2 _ ih _ _ hf
  intro H locs ls hl hH
  replace hl : lv_has ls 2 [(0, .ref (X.2.2.2 a0))] := hl
  unfold f_X4_orderByNumber at hf
  refine lv_iconst (v := 0) hx hb dX4_orderByNumber_0 (by decide) ?_
  refine lv_istore_n (lv' := [(1, .int ((0 : Int32))), (0, .ref (X.2.2.2 a0))]) hx hb dX4_orderByNumber_1 rfl hl (by decide) rfl (fun ls hl => ?_)
  exact BL2 FU _ _ hf H locs ls (lv_sub hl [1, 0] rfl) hH
set_option maxHeartbeats 4000000 in
set_option maxRecDepth 100000 in
theorem C_X4_beginWith (l : Launch) (X : Cx) (hI : Inj X) {a0 : Nat} (t0 : tY a0 = 4) {a1 : Nat} (t1 : tY a1 = 3) (h : Hp) (h0 : Hp) (hf : f_X4_beginWith a0 a1 h = some h0) : Mv l X yX4_beginWith cX4_beginWith 3 none 1 40 h [.ref (X.2.2.2 a0), .ref (X.2.2.2 a1)] h0 := by
  refine BD_of (own := RX4) hI rfl (by decide) (Nat.le_of_ble_eq_true rfl) ?_
  intro p e s m args below meth c S hr hlk hK hN
  obtain ⟨hx, hb, hml, hown, hts⟩ := id S
  have B29 : ∀ (k29 : Int32 → Hp → Option Hp) (hk29 : ∀ (x2 : Int32) (h : Hp), k29 x2 h = some h0 → BK p l e ({ frames := 1, cells := 0, slots := 0, locals := 40 }) s m args below meth c (MQ below (cQv X h0) args s 0 0 (AD X)) X 3 29 [(0, .ref (X.2.2.2 a0)), (2, .int x2)] [] h) (x2 : Int32) (h : Hp), g_X4_beginWith_29 a0 a1 k29 x2 h = some h0 → BK p l e ({ frames := 1, cells := 0, slots := 0, locals := 40 }) s m args below meth c (MQ below (cQv X h0) args s 0 0 (AD X)) X 3 29 [(0, .ref (X.2.2.2 a0)), (2, .int x2)] [] h := by
    intro k29 hk29 x2 h hf H locs ls hl hH
    unfold g_X4_beginWith_29 at hf
    refine lv_iload_n hx hb dX4_beginWith_29 rfl (lv_at hl 1 rfl) ?_
    refine lv_bipush (v := 12) hx hb dX4_beginWith_30 (by decide) ?_
    refine lv_icmp_ge (tgt := 49) hx hb dX4_beginWith_32 (by decide) (fun c1 => ?_) (fun c1 => ?_)
    · replace hf := ite_t c1 hf
      exact wk_vret S hr hlk hK hN hH hf dX4_beginWith_49
    · replace hf := ite_f c1 hf
      refine lv_aload_n hx hb dX4_beginWith_35 rfl (lv_at hl 0 rfl) ?_
      refine wk_getr (ci := 4) (k := 3) S hK hH j_X4 t0 rfl hq_4_3 (hts _ (wU_in _ m_147)) dX4_beginWith_36 ?_
      refine lv_iload_n hx hb dX4_beginWith_39 rfl (lv_at hl 1 rfl) ?_
      refine lv_bipush (v := (-9)) hx hb dX4_beginWith_40 (by decide) ?_
      obtain ⟨o2, hf⟩ := ite_ok hf
      refine wk_iast S hK hH (tr_4_3 t0) o2 dX4_beginWith_42 (fun H locs hH => ?_)
      refine lv_iinc (v := (x2 + (1 : Int32))) (lv' := [(2, .int ((x2 + (1 : Int32)))), (0, .ref (X.2.2.2 a0))]) hx hb dX4_beginWith_43 hl (k := 1) rfl rfl (by decide) rfl (fun ls hl => ?_)
      refine lv_goto (tgt := 29) hx hb dX4_beginWith_46 (by decide) ?_
      exact hk29 _ _ hf H locs ls (lv_sub hl [1, 0] rfl) hH
  have BL29 : ∀ (n : Nat) (x2 : Int32) (h : Hp), f_X4_beginWith_29 a0 a1 n x2 h = some h0 → BK p l e ({ frames := 1, cells := 0, slots := 0, locals := 40 }) s m args below meth c (MQ below (cQv X h0) args s 0 0 (AD X)) X 3 29 [(0, .ref (X.2.2.2 a0)), (2, .int x2)] [] h := by
    intro n
    induction n with
    | zero => intro x2 h hf; cases hf
    | succ n ih => intro x2 h hf; exact B29 _ ih _ _ hf
  intro H locs ls hl hH
  replace hl : lv_has ls 3 [(0, .ref (X.2.2.2 a0)), (1, .ref (X.2.2.2 a1))] := hl
  unfold f_X4_beginWith at hf
  refine lv_aload_n hx hb dX4_beginWith_0 rfl (lv_at hl 1 rfl) ?_
  refine wk_getrN (ci := 3) (k := 4) S hK hH j_X3 t1 rfl hq_3_4 (hN _ n_68) dX4_beginWith_1 ?_
  refine lv_iconst (v := 0) hx hb dX4_beginWith_4 (by decide) ?_
  refine lv_aload_n hx hb dX4_beginWith_5 rfl (lv_at hl 0 rfl) ?_
  refine wk_getr (ci := 4) (k := 1) S hK hH j_X4 t0 rfl hq_4_1 (hts _ (wU_in _ m_144)) dX4_beginWith_6 ?_
  refine lv_iconst (v := 0) hx hb dX4_beginWith_9 (by decide) ?_
  refine lv_bipush (v := 16) hx hb dX4_beginWith_10 (by decide) ?_
  obtain ⟨o3, hf⟩ := ite_ok hf
  refine wk_copy (rest := []) S hK hH hl.1 (tr_3_4 t1) (tr_4_1 t0) (by decide) o3.1 o3.2 (hts _ (wU_in _ m_316)) (hts _ (wU_in _ m_311)) (hts _ (wU_in _ m_310)) (hts _ (wU_in _ m_42)) (by decide) (by decide +kernel) dX4_beginWith_12 (fun H locs hH => ?_)
  refine lv_aload_n hx hb dX4_beginWith_15 rfl (lv_at hl 0 rfl) ?_
  refine lv_aload_n hx hb dX4_beginWith_16 rfl (lv_at hl 1 rfl) ?_
  refine wk_getiN (ci := 3) (k := 7) S hK hH j_X3 t1 rfl hq_3_7 (hN _ n_73) dX4_beginWith_17 ?_
  refine wk_puti (ci := 4) (k := 5) S hK hH j_X4 tyX4 tyX4_ok nmX4 t0 rfl hq_4_5 rfl hd_4_5 (hts _ (wU_in _ m_149)) dX4_beginWith_20 (fun H locs hH => ?_)
  refine lv_aload_n hx hb dX4_beginWith_23 rfl (lv_at hl 0 rfl) ?_
  obtain ⟨h6, hq5, hf⟩ := bind_ok hf
  refine wk_callVv (ci := 4) (b := a0) (As := []) (rest := []) S hK hN hH t0 (by decide) rfl (C_X4_orderByNumber l X hI t0 _ _ hq5) (cwV 0 hts (gV wU_in m_317 m_318 m_319 m_38 m_320) rfl rfl rfl hdV_X4_orderByNumber ⟨Nat.le_of_ble_eq_true rfl, Nat.le_of_ble_eq_true rfl⟩) hl.1 rfl rfl (Nat.le_of_ble_eq_true rfl) dX4_beginWith_24 ⟨Nat.zero_le _, Nat.zero_le _⟩ (fun H locs hH => ?_)
  refine lv_iconst (v := 0) hx hb dX4_beginWith_27 (by decide) ?_
  refine lv_istore_n (lv' := [(2, .int ((0 : Int32))), (0, .ref (X.2.2.2 a0)), (1, .ref (X.2.2.2 a1))]) hx hb dX4_beginWith_28 rfl hl (by decide) rfl (fun ls hl => ?_)
  exact BL29 FU _ _ hf H locs ls (lv_sub hl [1, 0] rfl) hH
set_option maxHeartbeats 4000000 in
set_option maxRecDepth 100000 in
theorem C_X4_takeFrom (l : Launch) (X : Cx) (hI : Inj X) {a0 : Nat} (t0 : tY a0 = 4) {a1 : Nat} (t1 : tY a1 = 4) (h : Hp) (h0 : Hp) (hf : f_X4_takeFrom a0 a1 h = some h0) : Mv l X yX4_takeFrom cX4_takeFrom 2 none 1 40 h [.ref (X.2.2.2 a0), .ref (X.2.2.2 a1)] h0 := by
  refine BD_of (own := RX4) hI rfl (by decide) (Nat.le_of_ble_eq_true rfl) ?_
  intro p e s m args below meth c S hr hlk hK hN
  obtain ⟨hx, hb, hml, hown, hts⟩ := id S
  intro H locs ls hl hH
  replace hl : lv_has ls 2 [(0, .ref (X.2.2.2 a0)), (1, .ref (X.2.2.2 a1))] := hl
  unfold f_X4_takeFrom at hf
  refine lv_aload_n hx hb dX4_takeFrom_0 rfl (lv_at hl 1 rfl) ?_
  refine wk_getr (ci := 4) (k := 1) S hK hH j_X4 t1 rfl hq_4_1 (hts _ (wU_in _ m_144)) dX4_takeFrom_1 ?_
  refine lv_iconst (v := 0) hx hb dX4_takeFrom_4 (by decide) ?_
  refine lv_aload_n hx hb dX4_takeFrom_5 rfl (lv_at hl 0 rfl) ?_
  refine wk_getr (ci := 4) (k := 1) S hK hH j_X4 t0 rfl hq_4_1 (hts _ (wU_in _ m_144)) dX4_takeFrom_6 ?_
  refine lv_iconst (v := 0) hx hb dX4_takeFrom_9 (by decide) ?_
  refine lv_bipush (v := 16) hx hb dX4_takeFrom_10 (by decide) ?_
  obtain ⟨o1, hf⟩ := ite_ok hf
  refine wk_copy (rest := []) S hK hH hl.1 (tr_4_1 t1) (tr_4_1 t0) (by decide) o1.1 o1.2 (hts _ (wU_in _ m_316)) (hts _ (wU_in _ m_311)) (hts _ (wU_in _ m_310)) (hts _ (wU_in _ m_42)) (by decide) (by decide +kernel) dX4_takeFrom_12 (fun H locs hH => ?_)
  refine lv_aload_n hx hb dX4_takeFrom_15 rfl (lv_at hl 1 rfl) ?_
  refine wk_getr (ci := 4) (k := 2) S hK hH j_X4 t1 rfl hq_4_2 (hts _ (wU_in _ m_145)) dX4_takeFrom_16 ?_
  refine lv_iconst (v := 0) hx hb dX4_takeFrom_19 (by decide) ?_
  refine lv_aload_n hx hb dX4_takeFrom_20 rfl (lv_at hl 0 rfl) ?_
  refine wk_getr (ci := 4) (k := 2) S hK hH j_X4 t0 rfl hq_4_2 (hts _ (wU_in _ m_145)) dX4_takeFrom_21 ?_
  refine lv_iconst (v := 0) hx hb dX4_takeFrom_24 (by decide) ?_
  refine lv_iconst (v := 4) hx hb dX4_takeFrom_25 (by decide) ?_
  obtain ⟨o3, hf⟩ := ite_ok hf
  refine wk_copy (rest := []) S hK hH hl.1 (tr_4_2 t1) (tr_4_2 t0) (by decide) o3.1 o3.2 (hts _ (wU_in _ m_316)) (hts _ (wU_in _ m_311)) (hts _ (wU_in _ m_310)) (hts _ (wU_in _ m_42)) (by decide) (by decide +kernel) dX4_takeFrom_26 (fun H locs hH => ?_)
  refine lv_aload_n hx hb dX4_takeFrom_29 rfl (lv_at hl 1 rfl) ?_
  refine wk_getr (ci := 4) (k := 3) S hK hH j_X4 t1 rfl hq_4_3 (hts _ (wU_in _ m_147)) dX4_takeFrom_30 ?_
  refine lv_iconst (v := 0) hx hb dX4_takeFrom_33 (by decide) ?_
  refine lv_aload_n hx hb dX4_takeFrom_34 rfl (lv_at hl 0 rfl) ?_
  refine wk_getr (ci := 4) (k := 3) S hK hH j_X4 t0 rfl hq_4_3 (hts _ (wU_in _ m_147)) dX4_takeFrom_35 ?_
  refine lv_iconst (v := 0) hx hb dX4_takeFrom_38 (by decide) ?_
  refine lv_bipush (v := 12) hx hb dX4_takeFrom_39 (by decide) ?_
  obtain ⟨o5, hf⟩ := ite_ok hf
  refine wk_copy (rest := []) S hK hH hl.1 (tr_4_3 t1) (tr_4_3 t0) (by decide) o5.1 o5.2 (hts _ (wU_in _ m_316)) (hts _ (wU_in _ m_311)) (hts _ (wU_in _ m_310)) (hts _ (wU_in _ m_42)) (by decide) (by decide +kernel) dX4_takeFrom_41 (fun H locs hH => ?_)
  refine lv_aload_n hx hb dX4_takeFrom_44 rfl (lv_at hl 0 rfl) ?_
  refine lv_aload_n hx hb dX4_takeFrom_45 rfl (lv_at hl 1 rfl) ?_
  refine wk_geti (ci := 4) (k := 5) S hK hH j_X4 t1 rfl hq_4_5 (hts _ (wU_in _ m_149)) dX4_takeFrom_46 ?_
  refine wk_puti (ci := 4) (k := 5) S hK hH j_X4 tyX4 tyX4_ok nmX4 t0 rfl hq_4_5 rfl hd_4_5 (hts _ (wU_in _ m_149)) dX4_takeFrom_49 (fun H locs hH => ?_)
  exact wk_vret S hr hlk hK hN hH hf dX4_takeFrom_52
set_option maxHeartbeats 4000000 in
set_option maxRecDepth 100000 in
theorem C_X4_hasChange (l : Launch) (X : Cx) (hI : Inj X) {a0 : Nat} (t0 : tY a0 = 4) (a1 : Int32) (h : Hp) (r0 : Int32) (h0 : Hp) (hf : f_X4_hasChange a0 a1 h = some (r0, h0)) : Mi l X yX4_hasChange cX4_hasChange 2 (some .boolean) 0 0 h [.ref (X.2.2.2 a0), .int a1] r0 h0 := by
  refine BD_of (own := RX4) hI rfl (by decide) (Nat.le_of_ble_eq_true rfl) ?_
  intro p e s m args below meth c S hr hlk hK hN
  obtain ⟨hx, hb, hml, hown, hts⟩ := id S
  intro H locs ls hl hH
  replace hl : lv_has ls 2 [(0, .ref (X.2.2.2 a0)), (1, .int a1)] := hl
  unfold f_X4_hasChange at hf
  refine lv_iload_n hx hb dX4_hasChange_0 rfl (lv_at hl 1 rfl) ?_
  refine lv_if_lt (tgt := 16) hx hb dX4_hasChange_1 (by decide) (fun c1 => ?_) (fun c1 => ?_)
  · replace hf := ite_t c1 hf
    refine lv_iconst (v := 0) hx hb dX4_hasChange_16 (by decide) ?_
    exact wk_zret S hr hlk hK hN hH rfl hf dX4_hasChange_17
  · replace hf := ite_f c1 hf
    refine lv_iload_n hx hb dX4_hasChange_4 rfl (lv_at hl 1 rfl) ?_
    refine lv_aload_n hx hb dX4_hasChange_5 rfl (lv_at hl 0 rfl) ?_
    refine wk_geti (ci := 4) (k := 5) S hK hH j_X4 t0 rfl hq_4_5 (hts _ (wU_in _ m_149)) dX4_hasChange_6 ?_
    refine lv_icmp_ge (tgt := 16) hx hb dX4_hasChange_9 (by decide) (fun c2 => ?_) (fun c2 => ?_)
    · replace hf := ite_t c2 hf
      refine lv_iconst (v := 0) hx hb dX4_hasChange_16 (by decide) ?_
      exact wk_zret S hr hlk hK hN hH rfl hf dX4_hasChange_17
    · replace hf := ite_f c2 hf
      refine lv_iconst (v := 1) hx hb dX4_hasChange_12 (by decide) ?_
      refine lv_goto (tgt := 17) hx hb dX4_hasChange_13 (by decide) ?_
      exact wk_zret S hr hlk hK hN hH rfl hf dX4_hasChange_17
set_option maxHeartbeats 4000000 in
set_option maxRecDepth 100000 in
theorem C_X4_allChanges (l : Launch) (X : Cx) (hI : Inj X) {a0 : Nat} (t0 : tY a0 = 4) (h : Hp) (r0 : Int32) (h0 : Hp) (hf : f_X4_allChanges a0 h = some (r0, h0)) : Mi l X yX4_allChanges cX4_allChanges 1 (some .int) 0 0 h [.ref (X.2.2.2 a0)] r0 h0 := by
  refine BD_of (own := RX4) hI rfl (by decide) (Nat.le_of_ble_eq_true rfl) ?_
  intro p e s m args below meth c S hr hlk hK hN
  obtain ⟨hx, hb, hml, hown, hts⟩ := id S
  intro H locs ls hl hH
  replace hl : lv_has ls 1 [(0, .ref (X.2.2.2 a0))] := hl
  unfold f_X4_allChanges at hf
  refine lv_iconst (v := 1) hx hb dX4_allChanges_0 (by decide) ?_
  refine lv_aload_n hx hb dX4_allChanges_1 rfl (lv_at hl 0 rfl) ?_
  refine wk_geti (ci := 4) (k := 5) S hK hH j_X4 t0 rfl hq_4_5 (hts _ (wU_in _ m_149)) dX4_allChanges_2 ?_
  refine lv_ishl hx hb dX4_allChanges_5 ?_
  refine lv_iconst (v := 1) hx hb dX4_allChanges_6 (by decide) ?_
  refine lv_isub hx hb dX4_allChanges_7 ?_
  exact wk_iret S hr hlk hK hN hH hf dX4_allChanges_8
set_option maxHeartbeats 4000000 in
set_option maxRecDepth 100000 in
theorem C_X4_formOf (l : Launch) (X : Cx) (hI : Inj X) {a0 : Nat} (t0 : tY a0 = 4) (a1 : Int32) (a2 : Int32) (h : Hp) (r0 : Int32) (h0 : Hp) (hf : f_X4_formOf a0 a1 a2 h = some (r0, h0)) : Mi l X yX4_formOf cX4_formOf 3 (some .int) 0 0 h [.ref (X.2.2.2 a0), .int a1, .int a2] r0 h0 := by
  refine BD_of (own := RX4) hI rfl (by decide) (Nat.le_of_ble_eq_true rfl) ?_
  intro p e s m args below meth c S hr hlk hK hN
  obtain ⟨hx, hb, hml, hown, hts⟩ := id S
  intro H locs ls hl hH
  replace hl : lv_has ls 3 [(0, .ref (X.2.2.2 a0)), (1, .int a1), (2, .int a2)] := hl
  unfold f_X4_formOf at hf
  refine lv_aload_n hx hb dX4_formOf_0 rfl (lv_at hl 0 rfl) ?_
  refine wk_getr (ci := 4) (k := 3) S hK hH j_X4 t0 rfl hq_4_3 (hts _ (wU_in _ m_147)) dX4_formOf_1 ?_
  refine lv_iload_n hx hb dX4_formOf_4 rfl (lv_at hl 1 rfl) ?_
  refine lv_iconst (v := 3) hx hb dX4_formOf_5 (by decide) ?_
  refine lv_imul hx hb dX4_formOf_6 ?_
  refine lv_iload_n hx hb dX4_formOf_7 rfl (lv_at hl 2 rfl) ?_
  refine lv_iadd hx hb dX4_formOf_8 ?_
  obtain ⟨o1, hf⟩ := ite_ok hf
  refine wk_iald S hK hH (tr_4_3 t0) o1 dX4_formOf_9 ?_
  exact wk_iret S hr hlk hK hN hH hf dX4_formOf_10
set_option maxHeartbeats 4000000 in
set_option maxRecDepth 100000 in
theorem C_X4_formCount (l : Launch) (X : Cx) (hI : Inj X) {a0 : Nat} (t0 : tY a0 = 4) (h : Hp) (r0 : Int32) (h0 : Hp) (hf : f_X4_formCount a0 h = some (r0, h0)) : Mi l X yX4_formCount cX4_formCount 3 (some .int) 0 0 h [.ref (X.2.2.2 a0)] r0 h0 := by
  refine BD_of (own := RX4) hI rfl (by decide) (Nat.le_of_ble_eq_true rfl) ?_
  intro p e s m args below meth c S hr hlk hK hN
  obtain ⟨hx, hb, hml, hown, hts⟩ := id S
  have B24 : ∀ (k4 : Int32 → Int32 → Hp → Option (Int32 × Hp)) (hk4 : ∀ (x1 : Int32) (x2 : Int32) (h : Hp), k4 x1 x2 h = some (r0, h0) → BK p l e ({ frames := 0, cells := 0, slots := 0, locals := 0 }) s m args below meth c (MQ below (cQi X r0 h0) args s 0 0 (AD X)) X 3 4 [(0, .ref (X.2.2.2 a0)), (1, .int x1), (2, .int x2)] [] h) (x1 : Int32) (x2 : Int32) (h : Hp), g_X4_formCount_24 a0 k4 x1 x2 h = some (r0, h0) → BK p l e ({ frames := 0, cells := 0, slots := 0, locals := 0 }) s m args below meth c (MQ below (cQi X r0 h0) args s 0 0 (AD X)) X 3 24 [(0, .ref (X.2.2.2 a0)), (1, .int x1), (2, .int x2)] [] h := by
    intro k4 hk4 x1 x2 h hf H locs ls hl hH
    unfold g_X4_formCount_24 at hf
    refine lv_iinc (v := (x2 + (1 : Int32))) (lv' := [(2, .int ((x2 + (1 : Int32)))), (0, .ref (X.2.2.2 a0)), (1, .int x1)]) hx hb dX4_formCount_24 hl (k := 2) rfl rfl (by decide) rfl (fun ls hl => ?_)
    refine lv_goto (tgt := 4) hx hb dX4_formCount_27 (by decide) ?_
    exact hk4 _ _ _ hf H locs ls (lv_sub hl [1, 2, 0] rfl) hH
  have B4 : ∀ (k4 : Int32 → Int32 → Hp → Option (Int32 × Hp)) (hk4 : ∀ (x1 : Int32) (x2 : Int32) (h : Hp), k4 x1 x2 h = some (r0, h0) → BK p l e ({ frames := 0, cells := 0, slots := 0, locals := 0 }) s m args below meth c (MQ below (cQi X r0 h0) args s 0 0 (AD X)) X 3 4 [(0, .ref (X.2.2.2 a0)), (1, .int x1), (2, .int x2)] [] h) (x1 : Int32) (x2 : Int32) (h : Hp), g_X4_formCount_4 a0 k4 x1 x2 h = some (r0, h0) → BK p l e ({ frames := 0, cells := 0, slots := 0, locals := 0 }) s m args below meth c (MQ below (cQi X r0 h0) args s 0 0 (AD X)) X 3 4 [(0, .ref (X.2.2.2 a0)), (1, .int x1), (2, .int x2)] [] h := by
    intro k4 hk4 x1 x2 h hf H locs ls hl hH
    unfold g_X4_formCount_4 at hf
    refine lv_iload_n hx hb dX4_formCount_4 rfl (lv_at hl 2 rfl) ?_
    refine lv_bipush (v := 12) hx hb dX4_formCount_5 (by decide) ?_
    refine lv_icmp_ge (tgt := 30) hx hb dX4_formCount_7 (by decide) (fun c1 => ?_) (fun c1 => ?_)
    · replace hf := ite_t c1 hf
      refine lv_iload_n hx hb dX4_formCount_30 rfl (lv_at hl 1 rfl) ?_
      exact wk_iret S hr hlk hK hN hH hf dX4_formCount_31
    · replace hf := ite_f c1 hf
      refine lv_aload_n hx hb dX4_formCount_10 rfl (lv_at hl 0 rfl) ?_
      refine wk_getr (ci := 4) (k := 3) S hK hH j_X4 t0 rfl hq_4_3 (hts _ (wU_in _ m_147)) dX4_formCount_11 ?_
      refine lv_iload_n hx hb dX4_formCount_14 rfl (lv_at hl 2 rfl) ?_
      obtain ⟨o2, hf⟩ := ite_ok hf
      refine wk_iald S hK hH (tr_4_3 t0) o2 dX4_formCount_15 ?_
      refine lv_bipush (v := (-9)) hx hb dX4_formCount_16 (by decide) ?_
      refine lv_icmp_eq (tgt := 24) hx hb dX4_formCount_18 (by decide) (fun c3 => ?_) (fun c3 => ?_)
      · replace hf := ite_t c3 hf
        exact B24 k4 hk4 _ _ _ hf H locs ls (lv_sub hl [0, 1, 2] rfl) hH
      · replace hf := ite_f c3 hf
        refine lv_iinc (v := (x1 + (1 : Int32))) (lv' := [(1, .int ((x1 + (1 : Int32)))), (0, .ref (X.2.2.2 a0)), (2, .int x2)]) hx hb dX4_formCount_21 hl (k := 1) rfl rfl (by decide) rfl (fun ls hl => ?_)
        exact B24 k4 hk4 _ _ _ hf H locs ls (lv_sub hl [1, 0, 2] rfl) hH
  have BL4 : ∀ (n : Nat) (x1 : Int32) (x2 : Int32) (h : Hp), f_X4_formCount_4 a0 n x1 x2 h = some (r0, h0) → BK p l e ({ frames := 0, cells := 0, slots := 0, locals := 0 }) s m args below meth c (MQ below (cQi X r0 h0) args s 0 0 (AD X)) X 3 4 [(0, .ref (X.2.2.2 a0)), (1, .int x1), (2, .int x2)] [] h := by
    intro n
    induction n with
    | zero => intro x1 x2 h hf; cases hf
    | succ n ih => intro x1 x2 h hf; exact B4 _ ih _ _ _ hf
  intro H locs ls hl hH
  replace hl : lv_has ls 3 [(0, .ref (X.2.2.2 a0))] := hl
  unfold f_X4_formCount at hf
  refine lv_iconst (v := 0) hx hb dX4_formCount_0 (by decide) ?_
  refine lv_istore_n (lv' := [(1, .int ((0 : Int32))), (0, .ref (X.2.2.2 a0))]) hx hb dX4_formCount_1 rfl hl (by decide) rfl (fun ls hl => ?_)
  refine lv_iconst (v := 0) hx hb dX4_formCount_2 (by decide) ?_
  refine lv_istore_n (lv' := [(2, .int ((0 : Int32))), (1, .int ((0 : Int32))), (0, .ref (X.2.2.2 a0))]) hx hb dX4_formCount_3 rfl hl (by decide) rfl (fun ls hl => ?_)
  exact BL4 FU _ _ _ hf H locs ls (lv_sub hl [2, 1, 0] rfl) hH
set_option maxHeartbeats 4000000 in
set_option maxRecDepth 100000 in
theorem C_X4_goToNextOrder (l : Launch) (X : Cx) (hI : Inj X) {a0 : Nat} (t0 : tY a0 = 4) (h : Hp) (r0 : Int32) (h0 : Hp) (hf : f_X4_goToNextOrder a0 h = some (r0, h0)) : Mi l X yX4_goToNextOrder cX4_goToNextOrder 5 (some .boolean) 1 23 h [.ref (X.2.2.2 a0)] r0 h0 := by
  refine BD_of (own := RX4) hI rfl (by decide) (Nat.le_of_ble_eq_true rfl) ?_
  intro p e s m args below meth c S hr hlk hK hN
  obtain ⟨hx, hb, hml, hown, hts⟩ := id S
  have B91 : ∀ (k91 : Int32 → Int32 → Hp → Option (Int32 × Hp)) (hk91 : ∀ (x3 : Int32) (x4 : Int32) (h : Hp), k91 x3 x4 h = some (r0, h0) → BK p l e ({ frames := 1, cells := 0, slots := 0, locals := 23 }) s m args below meth c (MQ below (cQi X r0 h0) args s 0 0 (AD X)) X 5 91 [(0, .ref (X.2.2.2 a0)), (3, .int x3), (4, .int x4)] [] h) (x3 : Int32) (x4 : Int32) (h : Hp), g_X4_goToNextOrder_91 a0 k91 x3 x4 h = some (r0, h0) → BK p l e ({ frames := 1, cells := 0, slots := 0, locals := 23 }) s m args below meth c (MQ below (cQi X r0 h0) args s 0 0 (AD X)) X 5 91 [(0, .ref (X.2.2.2 a0)), (3, .int x3), (4, .int x4)] [] h := by
    intro k91 hk91 x3 x4 h hf H locs ls hl hH
    unfold g_X4_goToNextOrder_91 at hf
    refine lv_iload_n hx hb dX4_goToNextOrder_91 rfl (lv_at hl 1 rfl) ?_
    refine lv_iload hx hb dX4_goToNextOrder_92 (lv_at hl 2 rfl) ?_
    refine lv_icmp_ge (tgt := 113) hx hb dX4_goToNextOrder_94 (by decide) (fun c1 => ?_) (fun c1 => ?_)
    · replace hf := ite_t c1 hf
      refine lv_iconst (v := 1) hx hb dX4_goToNextOrder_113 (by decide) ?_
      exact wk_zret S hr hlk hK hN hH rfl hf dX4_goToNextOrder_114
    · replace hf := ite_f c1 hf
      refine lv_aload_n hx hb dX4_goToNextOrder_97 rfl (lv_at hl 0 rfl) ?_
      refine lv_iload_n hx hb dX4_goToNextOrder_98 rfl (lv_at hl 1 rfl) ?_
      refine lv_iload hx hb dX4_goToNextOrder_99 (lv_at hl 2 rfl) ?_
      obtain ⟨h3, hq2, hf⟩ := bind_ok hf
      refine wk_callVv (ci := 4) (b := a0) (As := [.int x3, .int x4]) (rest := []) S hK hN hH t0 (by decide) rfl (C_X4_exchange l X hI t0 x3 x4 _ _ hq2) (cwV 2 hts (gV wU_in m_510 m_450 m_451 m_38 m_452) rfl rfl rfl hdV_X4_exchange ⟨Nat.le_of_ble_eq_true rfl, Nat.le_of_ble_eq_true rfl⟩) hl.1 rfl rfl (Nat.le_of_ble_eq_true rfl) dX4_goToNextOrder_101 ⟨Nat.zero_le _, Nat.zero_le _⟩ (fun H locs hH => ?_)
      refine lv_iinc (v := (x3 + (1 : Int32))) (lv' := [(3, .int ((x3 + (1 : Int32)))), (0, .ref (X.2.2.2 a0)), (4, .int x4)]) hx hb dX4_goToNextOrder_104 hl (k := 1) rfl rfl (by decide) rfl (fun ls hl => ?_)
      refine lv_iinc (v := (x4 + (-1 : Int32))) (lv' := [(4, .int ((x4 + (-1 : Int32)))), (3, .int ((x3 + (1 : Int32)))), (0, .ref (X.2.2.2 a0))]) hx hb dX4_goToNextOrder_107 hl (k := 2) rfl rfl (by decide) rfl (fun ls hl => ?_)
      refine lv_goto (tgt := 91) hx hb dX4_goToNextOrder_110 (by decide) ?_
      exact hk91 _ _ _ hf H locs ls (lv_sub hl [2, 1, 0] rfl) hH
  have BL91 : ∀ (n : Nat) (x3 : Int32) (x4 : Int32) (h : Hp), f_X4_goToNextOrder_91 a0 n x3 x4 h = some (r0, h0) → BK p l e ({ frames := 1, cells := 0, slots := 0, locals := 23 }) s m args below meth c (MQ below (cQi X r0 h0) args s 0 0 (AD X)) X 5 91 [(0, .ref (X.2.2.2 a0)), (3, .int x3), (4, .int x4)] [] h := by
    intro n
    induction n with
    | zero => intro x3 x4 h hf; cases hf
    | succ n ih => intro x3 x4 h hf; exact B91 _ ih _ _ _ hf
  have B73 : ∀ (x1 : Int32) (x2 : Int32) (h : Hp), g_X4_goToNextOrder_73 a0 x1 x2 h = some (r0, h0) → BK p l e ({ frames := 1, cells := 0, slots := 0, locals := 23 }) s m args below meth c (MQ below (cQi X r0 h0) args s 0 0 (AD X)) X 5 73 [(0, .ref (X.2.2.2 a0)), (1, .int x1), (2, .int x2)] [] h := by
    intro x1 x2 h hf H locs ls hl hH
    unfold g_X4_goToNextOrder_73 at hf
    refine lv_aload_n hx hb dX4_goToNextOrder_73 rfl (lv_at hl 0 rfl) ?_
    refine lv_iload_n hx hb dX4_goToNextOrder_74 rfl (lv_at hl 1 rfl) ?_
    refine lv_iload_n hx hb dX4_goToNextOrder_75 rfl (lv_at hl 2 rfl) ?_
    obtain ⟨h6, hq5, hf⟩ := bind_ok hf
    refine wk_callVv (ci := 4) (b := a0) (As := [.int x1, .int x2]) (rest := []) S hK hN hH t0 (by decide) rfl (C_X4_exchange l X hI t0 x1 x2 _ _ hq5) (cwV 2 hts (gV wU_in m_510 m_450 m_451 m_38 m_452) rfl rfl rfl hdV_X4_exchange ⟨Nat.le_of_ble_eq_true rfl, Nat.le_of_ble_eq_true rfl⟩) hl.1 rfl rfl (Nat.le_of_ble_eq_true rfl) dX4_goToNextOrder_76 ⟨Nat.zero_le _, Nat.zero_le _⟩ (fun H locs hH => ?_)
    refine lv_iload_n hx hb dX4_goToNextOrder_79 rfl (lv_at hl 1 rfl) ?_
    refine lv_iconst (v := 1) hx hb dX4_goToNextOrder_80 (by decide) ?_
    refine lv_iadd hx hb dX4_goToNextOrder_81 ?_
    refine lv_istore_n (lv' := [(3, .int ((x1 + (1 : Int32)))), (0, .ref (X.2.2.2 a0)), (1, .int x1), (2, .int x2)]) hx hb dX4_goToNextOrder_82 rfl hl (by decide) rfl (fun ls hl => ?_)
    refine lv_aload_n hx hb dX4_goToNextOrder_83 rfl (lv_at hl 1 rfl) ?_
    refine wk_geti (ci := 4) (k := 5) S hK hH j_X4 t0 rfl hq_4_5 (hts _ (wU_in _ m_149)) dX4_goToNextOrder_84 ?_
    refine lv_iconst (v := 1) hx hb dX4_goToNextOrder_87 (by decide) ?_
    refine lv_isub hx hb dX4_goToNextOrder_88 ?_
    refine lv_istore (lv' := [(4, .int (((h6.1 a0 5) - (1 : Int32)))), (3, .int ((x1 + (1 : Int32)))), (0, .ref (X.2.2.2 a0)), (1, .int x1), (2, .int x2)]) hx hb dX4_goToNextOrder_89 hl (by decide) rfl (fun ls hl => ?_)
    exact BL91 FU _ _ _ hf H locs ls (lv_sub hl [2, 1, 0] rfl) hH
  have B47 : ∀ (k47 : Int32 → Int32 → Hp → Option (Int32 × Hp)) (hk47 : ∀ (x1 : Int32) (x2 : Int32) (h : Hp), k47 x1 x2 h = some (r0, h0) → BK p l e ({ frames := 1, cells := 0, slots := 0, locals := 23 }) s m args below meth c (MQ below (cQi X r0 h0) args s 0 0 (AD X)) X 5 47 [(0, .ref (X.2.2.2 a0)), (1, .int x1), (2, .int x2)] [] h) (x1 : Int32) (x2 : Int32) (h : Hp), g_X4_goToNextOrder_47 a0 k47 x1 x2 h = some (r0, h0) → BK p l e ({ frames := 1, cells := 0, slots := 0, locals := 23 }) s m args below meth c (MQ below (cQi X r0 h0) args s 0 0 (AD X)) X 5 47 [(0, .ref (X.2.2.2 a0)), (1, .int x1), (2, .int x2)] [] h := by
    intro k47 hk47 x1 x2 h hf H locs ls hl hH
    unfold g_X4_goToNextOrder_47 at hf
    refine lv_iload_n hx hb dX4_goToNextOrder_47 rfl (lv_at hl 2 rfl) ?_
    refine lv_iload_n hx hb dX4_goToNextOrder_48 rfl (lv_at hl 1 rfl) ?_
    refine lv_icmp_le (tgt := 73) hx hb dX4_goToNextOrder_49 (by decide) (fun c8 => ?_) (fun c8 => ?_)
    · replace hf := ite_t c8 hf
      exact B73 _ _ _ hf H locs ls (lv_sub hl [0, 1, 2] rfl) hH
    · replace hf := ite_f c8 hf
      refine lv_aload_n hx hb dX4_goToNextOrder_52 rfl (lv_at hl 0 rfl) ?_
      refine wk_getr (ci := 4) (k := 2) S hK hH j_X4 t0 rfl hq_4_2 (hts _ (wU_in _ m_145)) dX4_goToNextOrder_53 ?_
      refine lv_iload_n hx hb dX4_goToNextOrder_56 rfl (lv_at hl 2 rfl) ?_
      obtain ⟨o9, hf⟩ := ite_ok hf
      refine wk_iald S hK hH (tr_4_2 t0) o9 dX4_goToNextOrder_57 ?_
      refine lv_aload_n hx hb dX4_goToNextOrder_58 rfl (lv_at hl 0 rfl) ?_
      refine wk_getr (ci := 4) (k := 2) S hK hH j_X4 t0 rfl hq_4_2 (hts _ (wU_in _ m_145)) dX4_goToNextOrder_59 ?_
      refine lv_iload_n hx hb dX4_goToNextOrder_62 rfl (lv_at hl 1 rfl) ?_
      obtain ⟨o10, hf⟩ := ite_ok hf
      refine wk_iald S hK hH (tr_4_2 t0) o10 dX4_goToNextOrder_63 ?_
      refine lv_icmp_ge (tgt := 73) hx hb dX4_goToNextOrder_64 (by decide) (fun c11 => ?_) (fun c11 => ?_)
      · replace hf := ite_t c11 hf
        exact B73 _ _ _ hf H locs ls (lv_sub hl [0, 1, 2] rfl) hH
      · replace hf := ite_f c11 hf
        refine lv_iinc (v := (x2 + (-1 : Int32))) (lv' := [(2, .int ((x2 + (-1 : Int32)))), (0, .ref (X.2.2.2 a0)), (1, .int x1)]) hx hb dX4_goToNextOrder_67 hl (k := 2) rfl rfl (by decide) rfl (fun ls hl => ?_)
        refine lv_goto (tgt := 47) hx hb dX4_goToNextOrder_70 (by decide) ?_
        exact hk47 _ _ _ hf H locs ls (lv_sub hl [1, 2, 0] rfl) hH
  have BL47 : ∀ (n : Nat) (x1 : Int32) (x2 : Int32) (h : Hp), f_X4_goToNextOrder_47 a0 n x1 x2 h = some (r0, h0) → BK p l e ({ frames := 1, cells := 0, slots := 0, locals := 23 }) s m args below meth c (MQ below (cQi X r0 h0) args s 0 0 (AD X)) X 5 47 [(0, .ref (X.2.2.2 a0)), (1, .int x1), (2, .int x2)] [] h := by
    intro n
    induction n with
    | zero => intro x1 x2 h hf; cases hf
    | succ n ih => intro x1 x2 h hf; exact B47 _ ih _ _ _ hf
  have B34 : ∀ (x1 : Int32) (h : Hp), g_X4_goToNextOrder_34 a0 x1 h = some (r0, h0) → BK p l e ({ frames := 1, cells := 0, slots := 0, locals := 23 }) s m args below meth c (MQ below (cQi X r0 h0) args s 0 0 (AD X)) X 5 34 [(0, .ref (X.2.2.2 a0)), (1, .int x1)] [] h := by
    intro x1 h hf H locs ls hl hH
    unfold g_X4_goToNextOrder_34 at hf
    refine lv_iload_n hx hb dX4_goToNextOrder_34 rfl (lv_at hl 1 rfl) ?_
    refine lv_if_ge (tgt := 40) hx hb dX4_goToNextOrder_35 (by decide) (fun c12 => ?_) (fun c12 => ?_)
    · replace hf := ite_t c12 hf
      refine lv_aload_n hx hb dX4_goToNextOrder_40 rfl (lv_at hl 0 rfl) ?_
      refine wk_geti (ci := 4) (k := 5) S hK hH j_X4 t0 rfl hq_4_5 (hts _ (wU_in _ m_149)) dX4_goToNextOrder_41 ?_
      refine lv_iconst (v := 1) hx hb dX4_goToNextOrder_44 (by decide) ?_
      refine lv_isub hx hb dX4_goToNextOrder_45 ?_
      refine lv_istore_n (lv' := [(2, .int (((h.1 a0 5) - (1 : Int32)))), (0, .ref (X.2.2.2 a0)), (1, .int x1)]) hx hb dX4_goToNextOrder_46 rfl hl (by decide) rfl (fun ls hl => ?_)
      exact BL47 FU _ _ _ hf H locs ls (lv_sub hl [1, 2, 0] rfl) hH
    · replace hf := ite_f c12 hf
      refine lv_iconst (v := 0) hx hb dX4_goToNextOrder_38 (by decide) ?_
      exact wk_zret S hr hlk hK hN hH rfl hf dX4_goToNextOrder_39
  have B7 : ∀ (k7 : Int32 → Hp → Option (Int32 × Hp)) (hk7 : ∀ (x1 : Int32) (h : Hp), k7 x1 h = some (r0, h0) → BK p l e ({ frames := 1, cells := 0, slots := 0, locals := 23 }) s m args below meth c (MQ below (cQi X r0 h0) args s 0 0 (AD X)) X 5 7 [(0, .ref (X.2.2.2 a0)), (1, .int x1)] [] h) (x1 : Int32) (h : Hp), g_X4_goToNextOrder_7 a0 k7 x1 h = some (r0, h0) → BK p l e ({ frames := 1, cells := 0, slots := 0, locals := 23 }) s m args below meth c (MQ below (cQi X r0 h0) args s 0 0 (AD X)) X 5 7 [(0, .ref (X.2.2.2 a0)), (1, .int x1)] [] h := by
    intro k7 hk7 x1 h hf H locs ls hl hH
    unfold g_X4_goToNextOrder_7 at hf
    refine lv_iload_n hx hb dX4_goToNextOrder_7 rfl (lv_at hl 1 rfl) ?_
    refine lv_if_lt (tgt := 34) hx hb dX4_goToNextOrder_8 (by decide) (fun c13 => ?_) (fun c13 => ?_)
    · replace hf := ite_t c13 hf
      exact B34 _ _ hf H locs ls (lv_sub hl [0, 1] rfl) hH
    · replace hf := ite_f c13 hf
      refine lv_aload_n hx hb dX4_goToNextOrder_11 rfl (lv_at hl 0 rfl) ?_
      refine wk_getr (ci := 4) (k := 2) S hK hH j_X4 t0 rfl hq_4_2 (hts _ (wU_in _ m_145)) dX4_goToNextOrder_12 ?_
      refine lv_iload_n hx hb dX4_goToNextOrder_15 rfl (lv_at hl 1 rfl) ?_
      obtain ⟨o14, hf⟩ := ite_ok hf
      refine wk_iald S hK hH (tr_4_2 t0) o14 dX4_goToNextOrder_16 ?_
      refine lv_aload_n hx hb dX4_goToNextOrder_17 rfl (lv_at hl 0 rfl) ?_
      refine wk_getr (ci := 4) (k := 2) S hK hH j_X4 t0 rfl hq_4_2 (hts _ (wU_in _ m_145)) dX4_goToNextOrder_18 ?_
      refine lv_iload_n hx hb dX4_goToNextOrder_21 rfl (lv_at hl 1 rfl) ?_
      refine lv_iconst (v := 1) hx hb dX4_goToNextOrder_22 (by decide) ?_
      refine lv_iadd hx hb dX4_goToNextOrder_23 ?_
      obtain ⟨o15, hf⟩ := ite_ok hf
      refine wk_iald S hK hH (tr_4_2 t0) o15 dX4_goToNextOrder_24 ?_
      refine lv_icmp_le (tgt := 34) hx hb dX4_goToNextOrder_25 (by decide) (fun c16 => ?_) (fun c16 => ?_)
      · replace hf := ite_t c16 hf
        exact B34 _ _ hf H locs ls (lv_sub hl [0, 1] rfl) hH
      · replace hf := ite_f c16 hf
        refine lv_iinc (v := (x1 + (-1 : Int32))) (lv' := [(1, .int ((x1 + (-1 : Int32)))), (0, .ref (X.2.2.2 a0))]) hx hb dX4_goToNextOrder_28 hl (k := 1) rfl rfl (by decide) rfl (fun ls hl => ?_)
        refine lv_goto (tgt := 7) hx hb dX4_goToNextOrder_31 (by decide) ?_
        exact hk7 _ _ hf H locs ls (lv_sub hl [1, 0] rfl) hH
  have BL7 : ∀ (n : Nat) (x1 : Int32) (h : Hp), f_X4_goToNextOrder_7 a0 n x1 h = some (r0, h0) → BK p l e ({ frames := 1, cells := 0, slots := 0, locals := 23 }) s m args below meth c (MQ below (cQi X r0 h0) args s 0 0 (AD X)) X 5 7 [(0, .ref (X.2.2.2 a0)), (1, .int x1)] [] h := by
    intro n
    induction n with
    | zero => intro x1 h hf; cases hf
    | succ n ih => intro x1 h hf; exact B7 _ ih _ _ hf
  intro H locs ls hl hH
  replace hl : lv_has ls 5 [(0, .ref (X.2.2.2 a0))] := hl
  unfold f_X4_goToNextOrder at hf
  refine lv_aload_n hx hb dX4_goToNextOrder_0 rfl (lv_at hl 0 rfl) ?_
  refine wk_geti (ci := 4) (k := 5) S hK hH j_X4 t0 rfl hq_4_5 (hts _ (wU_in _ m_149)) dX4_goToNextOrder_1 ?_
  refine lv_iconst (v := 2) hx hb dX4_goToNextOrder_4 (by decide) ?_
  refine lv_isub hx hb dX4_goToNextOrder_5 ?_
  refine lv_istore_n (lv' := [(1, .int (((h.1 a0 5) - (2 : Int32)))), (0, .ref (X.2.2.2 a0))]) hx hb dX4_goToNextOrder_6 rfl hl (by decide) rfl (fun ls hl => ?_)
  exact BL7 FU _ _ hf H locs ls (lv_sub hl [1, 0] rfl) hH
set_option maxHeartbeats 4000000 in
set_option maxRecDepth 100000 in
theorem C_X4_orderFigures (l : Launch) (X : Cx) (hI : Inj X) {a0 : Nat} (t0 : tY a0 = 4) (h : Hp) (r0 : Int32) (h0 : Hp) (hf : f_X4_orderFigures a0 h = some (r0, h0)) : Mi l X yX4_orderFigures cX4_orderFigures 3 (some .int) 0 0 h [.ref (X.2.2.2 a0)] r0 h0 := by
  refine BD_of (own := RX4) hI rfl (by decide) (Nat.le_of_ble_eq_true rfl) ?_
  intro p e s m args below meth c S hr hlk hK hN
  obtain ⟨hx, hb, hml, hown, hts⟩ := id S
  have B4 : ∀ (k4 : Int32 → Int32 → Hp → Option (Int32 × Hp)) (hk4 : ∀ (x1 : Int32) (x2 : Int32) (h : Hp), k4 x1 x2 h = some (r0, h0) → BK p l e ({ frames := 0, cells := 0, slots := 0, locals := 0 }) s m args below meth c (MQ below (cQi X r0 h0) args s 0 0 (AD X)) X 3 4 [(0, .ref (X.2.2.2 a0)), (1, .int x1), (2, .int x2)] [] h) (x1 : Int32) (x2 : Int32) (h : Hp), g_X4_orderFigures_4 a0 k4 x1 x2 h = some (r0, h0) → BK p l e ({ frames := 0, cells := 0, slots := 0, locals := 0 }) s m args below meth c (MQ below (cQi X r0 h0) args s 0 0 (AD X)) X 3 4 [(0, .ref (X.2.2.2 a0)), (1, .int x1), (2, .int x2)] [] h := by
    intro k4 hk4 x1 x2 h hf H locs ls hl hH
    unfold g_X4_orderFigures_4 at hf
    refine lv_iload_n hx hb dX4_orderFigures_4 rfl (lv_at hl 2 rfl) ?_
    refine lv_aload_n hx hb dX4_orderFigures_5 rfl (lv_at hl 0 rfl) ?_
    refine wk_geti (ci := 4) (k := 5) S hK hH j_X4 t0 rfl hq_4_5 (hts _ (wU_in _ m_149)) dX4_orderFigures_6 ?_
    refine lv_icmp_ge (tgt := 30) hx hb dX4_orderFigures_9 (by decide) (fun c1 => ?_) (fun c1 => ?_)
    · replace hf := ite_t c1 hf
      refine lv_iload_n hx hb dX4_orderFigures_30 rfl (lv_at hl 1 rfl) ?_
      exact wk_iret S hr hlk hK hN hH hf dX4_orderFigures_31
    · replace hf := ite_f c1 hf
      refine lv_bipush (v := 10) hx hb dX4_orderFigures_12 (by decide) ?_
      refine lv_iload_n hx hb dX4_orderFigures_14 rfl (lv_at hl 1 rfl) ?_
      refine lv_imul hx hb dX4_orderFigures_15 ?_
      refine lv_aload_n hx hb dX4_orderFigures_16 rfl (lv_at hl 0 rfl) ?_
      refine wk_getr (ci := 4) (k := 2) S hK hH j_X4 t0 rfl hq_4_2 (hts _ (wU_in _ m_145)) dX4_orderFigures_17 ?_
      refine lv_iload_n hx hb dX4_orderFigures_20 rfl (lv_at hl 2 rfl) ?_
      obtain ⟨o2, hf⟩ := ite_ok hf
      refine wk_iald S hK hH (tr_4_2 t0) o2 dX4_orderFigures_21 ?_
      refine lv_iadd hx hb dX4_orderFigures_22 ?_
      refine lv_istore_n (lv' := [(1, .int ((((10 : Int32) * x1) + (h.1 (rF a0 2) (x2).toNatClampNeg)))), (0, .ref (X.2.2.2 a0)), (2, .int x2)]) hx hb dX4_orderFigures_23 rfl hl (by decide) rfl (fun ls hl => ?_)
      refine lv_iinc (v := (x2 + (1 : Int32))) (lv' := [(2, .int ((x2 + (1 : Int32)))), (1, .int ((((10 : Int32) * x1) + (h.1 (rF a0 2) (x2).toNatClampNeg)))), (0, .ref (X.2.2.2 a0))]) hx hb dX4_orderFigures_24 hl (k := 2) rfl rfl (by decide) rfl (fun ls hl => ?_)
      refine lv_goto (tgt := 4) hx hb dX4_orderFigures_27 (by decide) ?_
      exact hk4 _ _ _ hf H locs ls (lv_sub hl [2, 1, 0] rfl) hH
  have BL4 : ∀ (n : Nat) (x1 : Int32) (x2 : Int32) (h : Hp), f_X4_orderFigures_4 a0 n x1 x2 h = some (r0, h0) → BK p l e ({ frames := 0, cells := 0, slots := 0, locals := 0 }) s m args below meth c (MQ below (cQi X r0 h0) args s 0 0 (AD X)) X 3 4 [(0, .ref (X.2.2.2 a0)), (1, .int x1), (2, .int x2)] [] h := by
    intro n
    induction n with
    | zero => intro x1 x2 h hf; cases hf
    | succ n ih => intro x1 x2 h hf; exact B4 _ ih _ _ _ hf
  intro H locs ls hl hH
  replace hl : lv_has ls 3 [(0, .ref (X.2.2.2 a0))] := hl
  unfold f_X4_orderFigures at hf
  refine lv_iconst (v := 0) hx hb dX4_orderFigures_0 (by decide) ?_
  refine lv_istore_n (lv' := [(1, .int ((0 : Int32))), (0, .ref (X.2.2.2 a0))]) hx hb dX4_orderFigures_1 rfl hl (by decide) rfl (fun ls hl => ?_)
  refine lv_iconst (v := 0) hx hb dX4_orderFigures_2 (by decide) ?_
  refine lv_istore_n (lv' := [(2, .int ((0 : Int32))), (1, .int ((0 : Int32))), (0, .ref (X.2.2.2 a0))]) hx hb dX4_orderFigures_3 rfl hl (by decide) rfl (fun ls hl => ?_)
  exact BL4 FU _ _ _ hf H locs ls (lv_sub hl [2, 1, 0] rfl) hH
set_option maxHeartbeats 4000000 in
set_option maxRecDepth 100000 in
theorem C_X4_walkWith (l : Launch) (X : Cx) (hI : Inj X) {a0 : Nat} (t0 : tY a0 = 4) (a1 : Int32) (a2 : Int32) (h : Hp) (r0 : Int32) (h0 : Hp) (hf : f_X4_walkWith a0 a1 a2 h = some (r0, h0)) : Mi l X yX4_walkWith cX4_walkWith 5 (some .int) 2 53 h [.ref (X.2.2.2 a0), .int a1, .int a2] r0 h0 := by
  refine BD_of (own := RX4) hI rfl (by decide) (Nat.le_of_ble_eq_true rfl) ?_
  intro p e s m args below meth c S hr hlk hK hN
  obtain ⟨hx, hb, hml, hown, hts⟩ := id S
  have B41 : ∀ (k5 : Int32 → Int32 → Hp → Option (Int32 × Hp)) (hk5 : ∀ (x3 : Int32) (x4 : Int32) (h : Hp), k5 x3 x4 h = some (r0, h0) → BK p l e ({ frames := 2, cells := 0, slots := 0, locals := 53 }) s m args below meth c (MQ below (cQi X r0 h0) args s 0 0 (AD X)) X 5 5 [(0, .ref (X.2.2.2 a0)), (2, .int a2), (3, .int x3), (4, .int x4)] [] h) (x3 : Int32) (x4 : Int32) (h : Hp), g_X4_walkWith_41 a0 a1 a2 k5 x3 x4 h = some (r0, h0) → BK p l e ({ frames := 2, cells := 0, slots := 0, locals := 53 }) s m args below meth c (MQ below (cQi X r0 h0) args s 0 0 (AD X)) X 5 41 [(0, .ref (X.2.2.2 a0)), (2, .int a2), (3, .int x3), (4, .int x4)] [] h := by
    intro k5 hk5 x3 x4 h hf H locs ls hl hH
    unfold g_X4_walkWith_41 at hf
    refine lv_iinc (v := (x4 + (1 : Int32))) (lv' := [(4, .int ((x4 + (1 : Int32)))), (0, .ref (X.2.2.2 a0)), (2, .int a2), (3, .int x3)]) hx hb dX4_walkWith_41 hl (k := 3) rfl rfl (by decide) rfl (fun ls hl => ?_)
    refine lv_goto (tgt := 5) hx hb dX4_walkWith_44 (by decide) ?_
    exact hk5 _ _ _ hf H locs ls (lv_sub hl [1, 2, 3, 0] rfl) hH
  have B5 : ∀ (k5 : Int32 → Int32 → Hp → Option (Int32 × Hp)) (hk5 : ∀ (x3 : Int32) (x4 : Int32) (h : Hp), k5 x3 x4 h = some (r0, h0) → BK p l e ({ frames := 2, cells := 0, slots := 0, locals := 53 }) s m args below meth c (MQ below (cQi X r0 h0) args s 0 0 (AD X)) X 5 5 [(0, .ref (X.2.2.2 a0)), (2, .int a2), (3, .int x3), (4, .int x4)] [] h) (x3 : Int32) (x4 : Int32) (h : Hp), g_X4_walkWith_5 a0 a1 a2 k5 x3 x4 h = some (r0, h0) → BK p l e ({ frames := 2, cells := 0, slots := 0, locals := 53 }) s m args below meth c (MQ below (cQi X r0 h0) args s 0 0 (AD X)) X 5 5 [(0, .ref (X.2.2.2 a0)), (2, .int a2), (3, .int x3), (4, .int x4)] [] h := by
    intro k5 hk5 x3 x4 h hf H locs ls hl hH
    unfold g_X4_walkWith_5 at hf
    refine lv_iload hx hb dX4_walkWith_5 (lv_at hl 3 rfl) ?_
    refine lv_aload_n hx hb dX4_walkWith_7 rfl (lv_at hl 0 rfl) ?_
    refine wk_geti (ci := 4) (k := 5) S hK hH j_X4 t0 rfl hq_4_5 (hts _ (wU_in _ m_149)) dX4_walkWith_8 ?_
    refine lv_icmp_ge (tgt := 47) hx hb dX4_walkWith_11 (by decide) (fun c1 => ?_) (fun c1 => ?_)
    · replace hf := ite_t c1 hf
      refine lv_iload_n hx hb dX4_walkWith_47 rfl (lv_at hl 2 rfl) ?_
      exact wk_iret S hr hlk hK hN hH hf dX4_walkWith_48
    · replace hf := ite_f c1 hf
      refine lv_iload_n hx hb dX4_walkWith_14 rfl (lv_at hl 1 rfl) ?_
      refine lv_iconst (v := 1) hx hb dX4_walkWith_15 (by decide) ?_
      refine lv_aload_n hx hb dX4_walkWith_16 rfl (lv_at hl 0 rfl) ?_
      refine wk_getr (ci := 4) (k := 2) S hK hH j_X4 t0 rfl hq_4_2 (hts _ (wU_in _ m_145)) dX4_walkWith_17 ?_
      refine lv_iload hx hb dX4_walkWith_20 (lv_at hl 3 rfl) ?_
      obtain ⟨o2, hf⟩ := ite_ok hf
      refine wk_iald S hK hH (tr_4_2 t0) o2 dX4_walkWith_22 ?_
      refine lv_ishl hx hb dX4_walkWith_23 ?_
      refine lv_iand hx hb dX4_walkWith_24 ?_
      refine lv_if_eq (tgt := 41) hx hb dX4_walkWith_25 (by decide) (fun c3 => ?_) (fun c3 => ?_)
      · replace hf := ite_t c3 hf
        exact B41 k5 hk5 _ _ _ hf H locs ls (lv_sub hl [0, 1, 2, 3] rfl) hH
      · replace hf := ite_f c3 hf
        refine lv_aload_n hx hb dX4_walkWith_28 rfl (lv_at hl 0 rfl) ?_
        refine lv_aload_n hx hb dX4_walkWith_29 rfl (lv_at hl 0 rfl) ?_
        refine wk_getr (ci := 4) (k := 2) S hK hH j_X4 t0 rfl hq_4_2 (hts _ (wU_in _ m_145)) dX4_walkWith_30 ?_
        refine lv_iload hx hb dX4_walkWith_33 (lv_at hl 3 rfl) ?_
        obtain ⟨o4, hf⟩ := ite_ok hf
        refine wk_iald S hK hH (tr_4_2 t0) o4 dX4_walkWith_35 ?_
        refine lv_iload_n hx hb dX4_walkWith_36 rfl (lv_at hl 2 rfl) ?_
        obtain ⟨r7, h6, hq5, hf⟩ := bnd_ok hf
        refine wk_callVi (ci := 4) (b := a0) (As := [.int ((h.1 (rF a0 2) (x4).toNatClampNeg)), .int x3]) (rest := []) S hK hN hH t0 (by decide) rfl (C_X4_goOver l X hI t0 (h.1 (rF a0 2) (x4).toNatClampNeg) x3 _ _ _ hq5) (cwV 2 hts (gV wU_in m_344 m_345 m_346 m_38 m_347) rfl rfl rfl hdV_X4_goOver ⟨Nat.le_of_ble_eq_true rfl, Nat.le_of_ble_eq_true rfl⟩) hl.1 rfl rfl (Nat.le_of_ble_eq_true rfl) dX4_walkWith_37 ⟨Nat.zero_le _, Nat.zero_le _⟩ (fun H locs hH => ?_)
        refine lv_istore_n (lv' := [(3, .int r7), (0, .ref (X.2.2.2 a0)), (2, .int a2), (4, .int x4)]) hx hb dX4_walkWith_40 rfl hl (by decide) rfl (fun ls hl => ?_)
        exact B41 k5 hk5 _ _ _ hf H locs ls (lv_sub hl [1, 2, 0, 3] rfl) hH
  have BL5 : ∀ (n : Nat) (x3 : Int32) (x4 : Int32) (h : Hp), f_X4_walkWith_5 a0 a1 a2 n x3 x4 h = some (r0, h0) → BK p l e ({ frames := 2, cells := 0, slots := 0, locals := 53 }) s m args below meth c (MQ below (cQi X r0 h0) args s 0 0 (AD X)) X 5 5 [(0, .ref (X.2.2.2 a0)), (2, .int a2), (3, .int x3), (4, .int x4)] [] h := by
    intro n
    induction n with
    | zero => intro x3 x4 h hf; cases hf
    | succ n ih => intro x3 x4 h hf; exact B5 _ ih _ _ _ hf
  intro H locs ls hl hH
  replace hl : lv_has ls 5 [(0, .ref (X.2.2.2 a0)), (1, .int a1), (2, .int a2)] := hl
  unfold f_X4_walkWith at hf
  refine lv_iload_n hx hb dX4_walkWith_0 rfl (lv_at hl 1 rfl) ?_
  refine lv_istore_n (lv' := [(3, .int a1), (0, .ref (X.2.2.2 a0)), (1, .int a1), (2, .int a2)]) hx hb dX4_walkWith_1 rfl hl (by decide) rfl (fun ls hl => ?_)
  refine lv_iconst (v := 0) hx hb dX4_walkWith_2 (by decide) ?_
  refine lv_istore (lv' := [(4, .int ((0 : Int32))), (3, .int a1), (0, .ref (X.2.2.2 a0)), (1, .int a1), (2, .int a2)]) hx hb dX4_walkWith_3 hl (by decide) rfl (fun ls hl => ?_)
  exact BL5 FU _ _ _ hf H locs ls (lv_sub hl [2, 4, 1, 0] rfl) hH
set_option maxHeartbeats 4000000 in
set_option maxRecDepth 100000 in
theorem C_X4_makeOf (l : Launch) (X : Cx) (hI : Inj X) {a0 : Nat} (t0 : tY a0 = 4) (a1 : Int32) (a2 : Int32) (h : Hp) (r0 : Int32) (h0 : Hp) (hf : f_X4_makeOf a0 a1 a2 h = some (r0, h0)) : Mi l X yX4_makeOf cX4_makeOf 3 (some .int) 3 77 h [.ref (X.2.2.2 a0), .int a1, .int a2] r0 h0 := by
  refine BD_of (own := RX4) hI rfl (by decide) (Nat.le_of_ble_eq_true rfl) ?_
  intro p e s m args below meth c S hr hlk hK hN
  obtain ⟨hx, hb, hml, hown, hts⟩ := id S
  intro H locs ls hl hH
  replace hl : lv_has ls 3 [(0, .ref (X.2.2.2 a0)), (1, .int a1), (2, .int a2)] := hl
  unfold f_X4_makeOf at hf
  refine lv_aload_n hx hb dX4_makeOf_0 rfl (lv_at hl 0 rfl) ?_
  refine lv_aload_n hx hb dX4_makeOf_1 rfl (lv_at hl 0 rfl) ?_
  refine wk_getr (ci := 4) (k := 0) S hK hH j_X4 t0 rfl hq_4_0 (hts _ (wU_in _ m_143)) dX4_makeOf_2 ?_
  refine lv_iload_n hx hb dX4_makeOf_5 rfl (lv_at hl 1 rfl) ?_
  refine lv_iload_n hx hb dX4_makeOf_6 rfl (lv_at hl 2 rfl) ?_
  obtain ⟨r3, h2, hq1, hf⟩ := bnd_ok hf
  refine wk_callVi (ci := 2) (b := (rF a0 0)) (As := [.int a1, .int a2]) (rest := [.ref (X.2.2.2 a0)]) S hK hN hH (tr_4_0 t0) (by decide) rfl (C_X2_joined l X hI (tr_4_0 t0) a1 a2 _ _ _ hq1) (cwV 2 hts (gV wU_in m_333 m_334 m_335 m_37 m_336) rfl rfl rfl hdV_X2_joined ⟨Nat.le_of_ble_eq_true rfl, Nat.le_of_ble_eq_true rfl⟩) hl.1 rfl rfl (Nat.le_of_ble_eq_true rfl) dX4_makeOf_7 ⟨Nat.zero_le _, Nat.zero_le _⟩ (fun H locs hH => ?_)
  refine lv_aload_n hx hb dX4_makeOf_10 rfl (lv_at hl 0 rfl) ?_
  refine wk_geti (ci := 4) (k := 5) S hK hH j_X4 t0 rfl hq_4_5 (hts _ (wU_in _ m_149)) dX4_makeOf_11 ?_
  obtain ⟨r6, h5, hq4, hf⟩ := bnd_ok hf
  refine wk_callVi (ci := 4) (b := a0) (As := [.int r3, .int ((h2.1 a0 5))]) (rest := []) S hK hN hH t0 (by decide) rfl (C_X4_walk l X hI t0 r3 (h2.1 a0 5) _ _ _ hq4) (cwV 2 hts (gV wU_in m_379 m_380 m_381 m_38 m_382) rfl rfl rfl hdV_X4_walk ⟨Nat.le_of_ble_eq_true rfl, Nat.le_of_ble_eq_true rfl⟩) hl.1 rfl rfl (Nat.le_of_ble_eq_true rfl) dX4_makeOf_14 ⟨Nat.zero_le _, Nat.zero_le _⟩ (fun H locs hH => ?_)
  exact wk_iret S hr hlk hK hN hH hf dX4_makeOf_17
set_option maxHeartbeats 4000000 in
set_option maxRecDepth 100000 in
theorem C_X4_isAmongUnlike (l : Launch) (X : Cx) (hI : Inj X) {a0 : Nat} (t0 : tY a0 = 4) (a1 : Int32) (a2 : Int32) (h : Hp) (r0 : Int32) (h0 : Hp) (hf : f_X4_isAmongUnlike a0 a1 a2 h = some (r0, h0)) : Mi l X yX4_isAmongUnlike cX4_isAmongUnlike 4 (some .boolean) 0 0 h [.ref (X.2.2.2 a0), .int a1, .int a2] r0 h0 := by
  refine BD_of (own := RX4) hI rfl (by decide) (Nat.le_of_ble_eq_true rfl) ?_
  intro p e s m args below meth c S hr hlk hK hN
  obtain ⟨hx, hb, hml, hown, hts⟩ := id S
  have B2 : ∀ (k2 : Int32 → Hp → Option (Int32 × Hp)) (hk2 : ∀ (x3 : Int32) (h : Hp), k2 x3 h = some (r0, h0) → BK p l e ({ frames := 0, cells := 0, slots := 0, locals := 0 }) s m args below meth c (MQ below (cQi X r0 h0) args s 0 0 (AD X)) X 4 2 [(0, .ref (X.2.2.2 a0)), (1, .int a1), (2, .int a2), (3, .int x3)] [] h) (x3 : Int32) (h : Hp), g_X4_isAmongUnlike_2 a0 a1 a2 k2 x3 h = some (r0, h0) → BK p l e ({ frames := 0, cells := 0, slots := 0, locals := 0 }) s m args below meth c (MQ below (cQi X r0 h0) args s 0 0 (AD X)) X 4 2 [(0, .ref (X.2.2.2 a0)), (1, .int a1), (2, .int a2), (3, .int x3)] [] h := by
    intro k2 hk2 x3 h hf H locs ls hl hH
    unfold g_X4_isAmongUnlike_2 at hf
    refine lv_iload_n hx hb dX4_isAmongUnlike_2 rfl (lv_at hl 3 rfl) ?_
    refine lv_iload_n hx hb dX4_isAmongUnlike_3 rfl (lv_at hl 2 rfl) ?_
    refine lv_icmp_ge (tgt := 25) hx hb dX4_isAmongUnlike_4 (by decide) (fun c1 => ?_) (fun c1 => ?_)
    · replace hf := ite_t c1 hf
      refine lv_iconst (v := 0) hx hb dX4_isAmongUnlike_25 (by decide) ?_
      exact wk_zret S hr hlk hK hN hH rfl hf dX4_isAmongUnlike_26
    · replace hf := ite_f c1 hf
      refine lv_aload_n hx hb dX4_isAmongUnlike_7 rfl (lv_at hl 0 rfl) ?_
      refine wk_getr (ci := 4) (k := 4) S hK hH j_X4 t0 rfl hq_4_4 (hts _ (wU_in _ m_148)) dX4_isAmongUnlike_8 ?_
      refine lv_iload_n hx hb dX4_isAmongUnlike_11 rfl (lv_at hl 3 rfl) ?_
      obtain ⟨o2, hf⟩ := ite_ok hf
      refine wk_iald S hK hH (tr_4_4 t0) o2 dX4_isAmongUnlike_12 ?_
      refine lv_iload_n hx hb dX4_isAmongUnlike_13 rfl (lv_at hl 1 rfl) ?_
      refine lv_icmp_ne (tgt := 19) hx hb dX4_isAmongUnlike_14 (by decide) (fun c3 => ?_) (fun c3 => ?_)
      · replace hf := ite_f c3 hf
        refine lv_iinc (v := (x3 + (1 : Int32))) (lv' := [(3, .int ((x3 + (1 : Int32)))), (0, .ref (X.2.2.2 a0)), (1, .int a1), (2, .int a2)]) hx hb dX4_isAmongUnlike_19 hl (k := 3) rfl rfl (by decide) rfl (fun ls hl => ?_)
        refine lv_goto (tgt := 2) hx hb dX4_isAmongUnlike_22 (by decide) ?_
        exact hk2 _ _ hf H locs ls (lv_sub hl [1, 2, 3, 0] rfl) hH
      · replace hf := ite_t c3 hf
        refine lv_iconst (v := 1) hx hb dX4_isAmongUnlike_17 (by decide) ?_
        exact wk_zret S hr hlk hK hN hH rfl hf dX4_isAmongUnlike_18
  have BL2 : ∀ (n : Nat) (x3 : Int32) (h : Hp), f_X4_isAmongUnlike_2 a0 a1 a2 n x3 h = some (r0, h0) → BK p l e ({ frames := 0, cells := 0, slots := 0, locals := 0 }) s m args below meth c (MQ below (cQi X r0 h0) args s 0 0 (AD X)) X 4 2 [(0, .ref (X.2.2.2 a0)), (1, .int a1), (2, .int a2), (3, .int x3)] [] h := by
    intro n
    induction n with
    | zero => intro x3 h hf; cases hf
    | succ n ih => intro x3 h hf; exact B2 _ ih _ _ hf
  intro H locs ls hl hH
  replace hl : lv_has ls 4 [(0, .ref (X.2.2.2 a0)), (1, .int a1), (2, .int a2)] := hl
  unfold f_X4_isAmongUnlike at hf
  refine lv_iconst (v := 0) hx hb dX4_isAmongUnlike_0 (by decide) ?_
  refine lv_istore_n (lv' := [(3, .int ((0 : Int32))), (0, .ref (X.2.2.2 a0)), (1, .int a1), (2, .int a2)]) hx hb dX4_isAmongUnlike_1 rfl hl (by decide) rfl (fun ls hl => ?_)
  exact BL2 FU _ _ hf H locs ls (lv_sub hl [1, 2, 3, 0] rfl) hH
set_option maxHeartbeats 4000000 in
set_option maxRecDepth 100000 in
theorem C_X4_unlikeWords (l : Launch) (X : Cx) (hI : Inj X) {a0 : Nat} (t0 : tY a0 = 4) (a1 : Int32) (h : Hp) (r0 : Int32) (h0 : Hp) (hf : f_X4_unlikeWords a0 a1 h = some (r0, h0)) : Mi l X yX4_unlikeWords cX4_unlikeWords 6 (some .int) 3 77 h [.ref (X.2.2.2 a0), .int a1] r0 h0 := by
  refine BD_of (own := RX4) hI rfl (by decide) (Nat.le_of_ble_eq_true rfl) ?_
  intro p e s m args below meth c S hr hlk hK hN
  obtain ⟨hx, hb, hml, hown, hts⟩ := id S
  have B68 : ∀ (k4 : Int32 → Int32 → Hp → Option (Int32 × Hp)) (hk4 : ∀ (x2 : Int32) (x3 : Int32) (h : Hp), k4 x2 x3 h = some (r0, h0) → BK p l e ({ frames := 3, cells := 0, slots := 0, locals := 77 }) s m args below meth c (MQ below (cQi X r0 h0) args s 0 0 (AD X)) X 6 4 [(0, .ref (X.2.2.2 a0)), (1, .int a1), (2, .int x2), (3, .int x3)] [] h) (k18 : Int32 → Int32 → Int32 → Hp → Option (Int32 × Hp)) (hk18 : ∀ (x2 : Int32) (x3 : Int32) (x4 : Int32) (h : Hp), k18 x2 x3 x4 h = some (r0, h0) → BK p l e ({ frames := 3, cells := 0, slots := 0, locals := 77 }) s m args below meth c (MQ below (cQi X r0 h0) args s 0 0 (AD X)) X 6 18 [(0, .ref (X.2.2.2 a0)), (1, .int a1), (2, .int x2), (3, .int x3), (4, .int x4)] [] h) (x2 : Int32) (x3 : Int32) (x4 : Int32) (h : Hp), g_X4_unlikeWords_68 a0 a1 k4 k18 x2 x3 x4 h = some (r0, h0) → BK p l e ({ frames := 3, cells := 0, slots := 0, locals := 77 }) s m args below meth c (MQ below (cQi X r0 h0) args s 0 0 (AD X)) X 6 68 [(0, .ref (X.2.2.2 a0)), (1, .int a1), (2, .int x2), (3, .int x3), (4, .int x4)] [] h := by
    intro k4 hk4 k18 hk18 x2 x3 x4 h hf H locs ls hl hH
    unfold g_X4_unlikeWords_68 at hf
    refine lv_iinc (v := (x4 + (1 : Int32))) (lv' := [(4, .int ((x4 + (1 : Int32)))), (0, .ref (X.2.2.2 a0)), (1, .int a1), (2, .int x2), (3, .int x3)]) hx hb dX4_unlikeWords_68 hl (k := 4) rfl rfl (by decide) rfl (fun ls hl => ?_)
    refine lv_goto (tgt := 18) hx hb dX4_unlikeWords_71 (by decide) ?_
    exact hk18 _ _ _ _ hf H locs ls (lv_sub hl [1, 2, 3, 4, 0] rfl) hH
  have B18 : ∀ (k4 : Int32 → Int32 → Hp → Option (Int32 × Hp)) (hk4 : ∀ (x2 : Int32) (x3 : Int32) (h : Hp), k4 x2 x3 h = some (r0, h0) → BK p l e ({ frames := 3, cells := 0, slots := 0, locals := 77 }) s m args below meth c (MQ below (cQi X r0 h0) args s 0 0 (AD X)) X 6 4 [(0, .ref (X.2.2.2 a0)), (1, .int a1), (2, .int x2), (3, .int x3)] [] h) (k18 : Int32 → Int32 → Int32 → Hp → Option (Int32 × Hp)) (hk18 : ∀ (x2 : Int32) (x3 : Int32) (x4 : Int32) (h : Hp), k18 x2 x3 x4 h = some (r0, h0) → BK p l e ({ frames := 3, cells := 0, slots := 0, locals := 77 }) s m args below meth c (MQ below (cQi X r0 h0) args s 0 0 (AD X)) X 6 18 [(0, .ref (X.2.2.2 a0)), (1, .int a1), (2, .int x2), (3, .int x3), (4, .int x4)] [] h) (x2 : Int32) (x3 : Int32) (x4 : Int32) (h : Hp), g_X4_unlikeWords_18 a0 a1 k4 k18 x2 x3 x4 h = some (r0, h0) → BK p l e ({ frames := 3, cells := 0, slots := 0, locals := 77 }) s m args below meth c (MQ below (cQi X r0 h0) args s 0 0 (AD X)) X 6 18 [(0, .ref (X.2.2.2 a0)), (1, .int a1), (2, .int x2), (3, .int x3), (4, .int x4)] [] h := by
    intro k4 hk4 k18 hk18 x2 x3 x4 h hf H locs ls hl hH
    unfold g_X4_unlikeWords_18 at hf
    refine lv_iload hx hb dX4_unlikeWords_18 (lv_at hl 4 rfl) ?_
    refine lv_aload_n hx hb dX4_unlikeWords_20 rfl (lv_at hl 0 rfl) ?_
    refine wk_getr (ci := 4) (k := 0) S hK hH j_X4 t0 rfl hq_4_0 (hts _ (wU_in _ m_143)) dX4_unlikeWords_21 ?_
    refine wk_getiN (ci := 2) (k := 3) S hK hH j_X2 (tr_4_0 t0) rfl hq_2_3 (hN _ n_127) dX4_unlikeWords_24 ?_
    refine lv_icmp_ge (tgt := 74) hx hb dX4_unlikeWords_27 (by decide) (fun c1 => ?_) (fun c1 => ?_)
    · replace hf := ite_t c1 hf
      refine lv_iinc (v := (x3 + (1 : Int32))) (lv' := [(3, .int ((x3 + (1 : Int32)))), (0, .ref (X.2.2.2 a0)), (1, .int a1), (2, .int x2), (4, .int x4)]) hx hb dX4_unlikeWords_74 hl (k := 3) rfl rfl (by decide) rfl (fun ls hl => ?_)
      refine lv_goto (tgt := 4) hx hb dX4_unlikeWords_77 (by decide) ?_
      exact hk4 _ _ _ hf H locs ls (lv_sub hl [1, 2, 3, 0] rfl) hH
    · replace hf := ite_f c1 hf
      refine lv_aload_n hx hb dX4_unlikeWords_30 rfl (lv_at hl 0 rfl) ?_
      refine lv_aload_n hx hb dX4_unlikeWords_31 rfl (lv_at hl 0 rfl) ?_
      refine wk_getr (ci := 4) (k := 0) S hK hH j_X4 t0 rfl hq_4_0 (hts _ (wU_in _ m_143)) dX4_unlikeWords_32 ?_
      refine lv_iload_n hx hb dX4_unlikeWords_35 rfl (lv_at hl 3 rfl) ?_
      refine lv_iload hx hb dX4_unlikeWords_36 (lv_at hl 4 rfl) ?_
      obtain ⟨r4, h3, hq2, hf⟩ := bnd_ok hf
      refine wk_callVi (ci := 2) (b := (rF a0 0)) (As := [.int x3, .int x4]) (rest := [.ref (X.2.2.2 a0)]) S hK hN hH (tr_4_0 t0) (by decide) rfl (C_X2_joined l X hI (tr_4_0 t0) x3 x4 _ _ _ hq2) (cwV 2 hts (gV wU_in m_333 m_334 m_335 m_37 m_336) rfl rfl rfl hdV_X2_joined ⟨Nat.le_of_ble_eq_true rfl, Nat.le_of_ble_eq_true rfl⟩) hl.1 rfl rfl (Nat.le_of_ble_eq_true rfl) dX4_unlikeWords_38 ⟨Nat.zero_le _, Nat.zero_le _⟩ (fun H locs hH => ?_)
      refine lv_iload_n hx hb dX4_unlikeWords_41 rfl (lv_at hl 1 rfl) ?_
      obtain ⟨r7, h6, hq5, hf⟩ := bnd_ok hf
      refine wk_callVi (ci := 4) (b := a0) (As := [.int r4, .int a1]) (rest := []) S hK hN hH t0 (by decide) rfl (C_X4_walkWith l X hI t0 r4 a1 _ _ _ hq5) (cwV 2 hts (gV wU_in m_340 m_341 m_342 m_38 m_343) rfl rfl rfl hdV_X4_walkWith ⟨Nat.le_of_ble_eq_true rfl, Nat.le_of_ble_eq_true rfl⟩) hl.1 rfl rfl (Nat.le_of_ble_eq_true rfl) dX4_unlikeWords_42 ⟨Nat.zero_le _, Nat.zero_le _⟩ (fun H locs hH => ?_)
      refine lv_istore (lv' := [(5, .int r7), (0, .ref (X.2.2.2 a0)), (1, .int a1), (2, .int x2), (3, .int x3), (4, .int x4)]) hx hb dX4_unlikeWords_45 hl (by decide) rfl (fun ls hl => ?_)
      refine lv_aload_n hx hb dX4_unlikeWords_47 rfl (lv_at hl 1 rfl) ?_
      refine lv_iload hx hb dX4_unlikeWords_48 (lv_at hl 0 rfl) ?_
      refine lv_iload_n hx hb dX4_unlikeWords_50 rfl (lv_at hl 3 rfl) ?_
      obtain ⟨r10, h9, hq8, hf⟩ := bnd_ok hf
      refine wk_callVi (ci := 4) (b := a0) (As := [.int r7, .int x2]) (rest := []) S hK hN hH t0 (by decide) rfl (C_X4_isAmongUnlike l X hI t0 r7 x2 _ _ _ hq8) (cwV 2 hts (gV wU_in m_355 m_357 m_7 m_38 m_358) rfl rfl rfl hdV_X4_isAmongUnlike ⟨Nat.le_of_ble_eq_true rfl, Nat.le_of_ble_eq_true rfl⟩) hl.1 rfl rfl (Nat.le_of_ble_eq_true rfl) dX4_unlikeWords_51 ⟨Nat.zero_le _, Nat.zero_le _⟩ (fun H locs hH => ?_)
      refine lv_if_ne (tgt := 68) hx hb dX4_unlikeWords_54 (by decide) (fun c11 => ?_) (fun c11 => ?_)
      · replace hf := ite_f c11 hf
        exact B68 k4 hk4 k18 hk18 _ _ _ _ hf H locs ls (lv_sub hl [1, 2, 3, 4, 5] rfl) hH
      · replace hf := ite_t c11 hf
        refine lv_aload_n hx hb dX4_unlikeWords_57 rfl (lv_at hl 1 rfl) ?_
        refine wk_getr (ci := 4) (k := 4) S hK hH j_X4 t0 rfl hq_4_4 (hts _ (wU_in _ m_148)) dX4_unlikeWords_58 ?_
        refine lv_iload_n hx hb dX4_unlikeWords_61 rfl (lv_at hl 3 rfl) ?_
        refine lv_iload hx hb dX4_unlikeWords_62 (lv_at hl 0 rfl) ?_
        obtain ⟨o12, hf⟩ := ite_ok hf
        refine wk_iast S hK hH (tr_4_4 t0) o12 dX4_unlikeWords_64 (fun H locs hH => ?_)
        refine lv_iinc (v := (x2 + (1 : Int32))) (lv' := [(2, .int ((x2 + (1 : Int32)))), (5, .int r7), (0, .ref (X.2.2.2 a0)), (1, .int a1), (3, .int x3), (4, .int x4)]) hx hb dX4_unlikeWords_65 hl (k := 3) rfl rfl (by decide) rfl (fun ls hl => ?_)
        exact B68 k4 hk4 k18 hk18 _ _ _ _ hf H locs ls (lv_sub hl [2, 3, 0, 4, 5] rfl) hH
  have BL18 : ∀ (k4 : Int32 → Int32 → Hp → Option (Int32 × Hp)) (hk4 : ∀ (x2 : Int32) (x3 : Int32) (h : Hp), k4 x2 x3 h = some (r0, h0) → BK p l e ({ frames := 3, cells := 0, slots := 0, locals := 77 }) s m args below meth c (MQ below (cQi X r0 h0) args s 0 0 (AD X)) X 6 4 [(0, .ref (X.2.2.2 a0)), (1, .int a1), (2, .int x2), (3, .int x3)] [] h) (n : Nat) (x2 : Int32) (x3 : Int32) (x4 : Int32) (h : Hp), f_X4_unlikeWords_18 a0 a1 k4 n x2 x3 x4 h = some (r0, h0) → BK p l e ({ frames := 3, cells := 0, slots := 0, locals := 77 }) s m args below meth c (MQ below (cQi X r0 h0) args s 0 0 (AD X)) X 6 18 [(0, .ref (X.2.2.2 a0)), (1, .int a1), (2, .int x2), (3, .int x3), (4, .int x4)] [] h := by
    intro k4 hk4 n
    induction n with
    | zero => intro x2 x3 x4 h hf; cases hf
    | succ n ih => intro x2 x3 x4 h hf; exact B18 k4 hk4 _ ih _ _ _ _ hf
  have B4 : ∀ (k4 : Int32 → Int32 → Hp → Option (Int32 × Hp)) (hk4 : ∀ (x2 : Int32) (x3 : Int32) (h : Hp), k4 x2 x3 h = some (r0, h0) → BK p l e ({ frames := 3, cells := 0, slots := 0, locals := 77 }) s m args below meth c (MQ below (cQi X r0 h0) args s 0 0 (AD X)) X 6 4 [(0, .ref (X.2.2.2 a0)), (1, .int a1), (2, .int x2), (3, .int x3)] [] h) (x2 : Int32) (x3 : Int32) (h : Hp), g_X4_unlikeWords_4 a0 a1 k4 x2 x3 h = some (r0, h0) → BK p l e ({ frames := 3, cells := 0, slots := 0, locals := 77 }) s m args below meth c (MQ below (cQi X r0 h0) args s 0 0 (AD X)) X 6 4 [(0, .ref (X.2.2.2 a0)), (1, .int a1), (2, .int x2), (3, .int x3)] [] h := by
    intro k4 hk4 x2 x3 h hf H locs ls hl hH
    unfold g_X4_unlikeWords_4 at hf
    refine lv_iload_n hx hb dX4_unlikeWords_4 rfl (lv_at hl 3 rfl) ?_
    refine lv_aload_n hx hb dX4_unlikeWords_5 rfl (lv_at hl 0 rfl) ?_
    refine wk_getr (ci := 4) (k := 0) S hK hH j_X4 t0 rfl hq_4_0 (hts _ (wU_in _ m_143)) dX4_unlikeWords_6 ?_
    refine wk_getiN (ci := 2) (k := 2) S hK hH j_X2 (tr_4_0 t0) rfl hq_2_2 (hN _ n_124) dX4_unlikeWords_9 ?_
    refine lv_icmp_ge (tgt := 80) hx hb dX4_unlikeWords_12 (by decide) (fun c13 => ?_) (fun c13 => ?_)
    · replace hf := ite_t c13 hf
      refine lv_iload_n hx hb dX4_unlikeWords_80 rfl (lv_at hl 2 rfl) ?_
      exact wk_iret S hr hlk hK hN hH hf dX4_unlikeWords_81
    · replace hf := ite_f c13 hf
      refine lv_iconst (v := 0) hx hb dX4_unlikeWords_15 (by decide) ?_
      refine lv_istore (lv' := [(4, .int ((0 : Int32))), (0, .ref (X.2.2.2 a0)), (1, .int a1), (2, .int x2), (3, .int x3)]) hx hb dX4_unlikeWords_16 hl (by decide) rfl (fun ls hl => ?_)
      exact BL18 k4 hk4 FU _ _ _ _ hf H locs ls (lv_sub hl [1, 2, 3, 4, 0] rfl) hH
  have BL4 : ∀ (n : Nat) (x2 : Int32) (x3 : Int32) (h : Hp), f_X4_unlikeWords_4 a0 a1 n x2 x3 h = some (r0, h0) → BK p l e ({ frames := 3, cells := 0, slots := 0, locals := 77 }) s m args below meth c (MQ below (cQi X r0 h0) args s 0 0 (AD X)) X 6 4 [(0, .ref (X.2.2.2 a0)), (1, .int a1), (2, .int x2), (3, .int x3)] [] h := by
    intro n
    induction n with
    | zero => intro x2 x3 h hf; cases hf
    | succ n ih => intro x2 x3 h hf; exact B4 _ ih _ _ _ hf
  intro H locs ls hl hH
  replace hl : lv_has ls 6 [(0, .ref (X.2.2.2 a0)), (1, .int a1)] := hl
  unfold f_X4_unlikeWords at hf
  refine lv_iconst (v := 0) hx hb dX4_unlikeWords_0 (by decide) ?_
  refine lv_istore_n (lv' := [(2, .int ((0 : Int32))), (0, .ref (X.2.2.2 a0)), (1, .int a1)]) hx hb dX4_unlikeWords_1 rfl hl (by decide) rfl (fun ls hl => ?_)
  refine lv_iconst (v := 0) hx hb dX4_unlikeWords_2 (by decide) ?_
  refine lv_istore_n (lv' := [(3, .int ((0 : Int32))), (2, .int ((0 : Int32))), (0, .ref (X.2.2.2 a0)), (1, .int a1)]) hx hb dX4_unlikeWords_3 rfl hl (by decide) rfl (fun ls hl => ?_)
  exact BL4 FU _ _ _ hf H locs ls (lv_sub hl [2, 3, 1, 0] rfl) hH
set_option maxHeartbeats 4000000 in
set_option maxRecDepth 100000 in
theorem C_X4_activeOver (l : Launch) (X : Cx) (hI : Inj X) {a0 : Nat} (t0 : tY a0 = 4) (a1 : Int32) (h : Hp) (r0 : Int32) (h0 : Hp) (hf : f_X4_activeOver a0 a1 h = some (r0, h0)) : Mi l X yX4_activeOver cX4_activeOver 6 (some .int) 2 53 h [.ref (X.2.2.2 a0), .int a1] r0 h0 := by
  refine BD_of (own := RX4) hI rfl (by decide) (Nat.le_of_ble_eq_true rfl) ?_
  intro p e s m args below meth c S hr hlk hK hN
  obtain ⟨hx, hb, hml, hown, hts⟩ := id S
  have B48 : ∀ (k7 : Int32 → Int32 → Int32 → Hp → Option (Int32 × Hp)) (hk7 : ∀ (x2 : Int32) (x3 : Int32) (x4 : Int32) (h : Hp), k7 x2 x3 x4 h = some (r0, h0) → BK p l e ({ frames := 2, cells := 0, slots := 0, locals := 53 }) s m args below meth c (MQ below (cQi X r0 h0) args s 0 0 (AD X)) X 6 7 [(0, .ref (X.2.2.2 a0)), (2, .int x2), (3, .int x3), (4, .int x4)] [] h) (x2 : Int32) (x4 : Int32) (x5 : Int32) (h : Hp), g_X4_activeOver_48 a0 a1 k7 x2 x4 x5 h = some (r0, h0) → BK p l e ({ frames := 2, cells := 0, slots := 0, locals := 53 }) s m args below meth c (MQ below (cQi X r0 h0) args s 0 0 (AD X)) X 6 48 [(0, .ref (X.2.2.2 a0)), (2, .int x2), (4, .int x4), (5, .int x5)] [] h := by
    intro k7 hk7 x2 x4 x5 h hf H locs ls hl hH
    unfold g_X4_activeOver_48 at hf
    refine lv_iload hx hb dX4_activeOver_48 (lv_at hl 3 rfl) ?_
    refine lv_istore_n (lv' := [(3, .int x5), (0, .ref (X.2.2.2 a0)), (2, .int x2), (4, .int x4), (5, .int x5)]) hx hb dX4_activeOver_50 rfl hl (by decide) rfl (fun ls hl => ?_)
    refine lv_iinc (v := (x4 + (1 : Int32))) (lv' := [(4, .int ((x4 + (1 : Int32)))), (3, .int x5), (0, .ref (X.2.2.2 a0)), (2, .int x2), (5, .int x5)]) hx hb dX4_activeOver_51 hl (k := 3) rfl rfl (by decide) rfl (fun ls hl => ?_)
    refine lv_goto (tgt := 7) hx hb dX4_activeOver_54 (by decide) ?_
    exact hk7 _ _ _ _ hf H locs ls (lv_sub hl [2, 3, 1, 0] rfl) hH
  have B7 : ∀ (k7 : Int32 → Int32 → Int32 → Hp → Option (Int32 × Hp)) (hk7 : ∀ (x2 : Int32) (x3 : Int32) (x4 : Int32) (h : Hp), k7 x2 x3 x4 h = some (r0, h0) → BK p l e ({ frames := 2, cells := 0, slots := 0, locals := 53 }) s m args below meth c (MQ below (cQi X r0 h0) args s 0 0 (AD X)) X 6 7 [(0, .ref (X.2.2.2 a0)), (2, .int x2), (3, .int x3), (4, .int x4)] [] h) (x2 : Int32) (x3 : Int32) (x4 : Int32) (h : Hp), g_X4_activeOver_7 a0 a1 k7 x2 x3 x4 h = some (r0, h0) → BK p l e ({ frames := 2, cells := 0, slots := 0, locals := 53 }) s m args below meth c (MQ below (cQi X r0 h0) args s 0 0 (AD X)) X 6 7 [(0, .ref (X.2.2.2 a0)), (2, .int x2), (3, .int x3), (4, .int x4)] [] h := by
    intro k7 hk7 x2 x3 x4 h hf H locs ls hl hH
    unfold g_X4_activeOver_7 at hf
    refine lv_iload hx hb dX4_activeOver_7 (lv_at hl 3 rfl) ?_
    refine lv_aload_n hx hb dX4_activeOver_9 rfl (lv_at hl 0 rfl) ?_
    refine wk_geti (ci := 4) (k := 5) S hK hH j_X4 t0 rfl hq_4_5 (hts _ (wU_in _ m_149)) dX4_activeOver_10 ?_
    refine lv_icmp_ge (tgt := 57) hx hb dX4_activeOver_13 (by decide) (fun c1 => ?_) (fun c1 => ?_)
    · replace hf := ite_t c1 hf
      refine lv_iload_n hx hb dX4_activeOver_57 rfl (lv_at hl 1 rfl) ?_
      exact wk_iret S hr hlk hK hN hH hf dX4_activeOver_58
    · replace hf := ite_f c1 hf
      refine lv_aload_n hx hb dX4_activeOver_16 rfl (lv_at hl 0 rfl) ?_
      refine lv_aload_n hx hb dX4_activeOver_17 rfl (lv_at hl 0 rfl) ?_
      refine wk_getr (ci := 4) (k := 2) S hK hH j_X4 t0 rfl hq_4_2 (hts _ (wU_in _ m_145)) dX4_activeOver_18 ?_
      refine lv_iload hx hb dX4_activeOver_21 (lv_at hl 3 rfl) ?_
      obtain ⟨o2, hf⟩ := ite_ok hf
      refine wk_iald S hK hH (tr_4_2 t0) o2 dX4_activeOver_23 ?_
      refine lv_iload_n hx hb dX4_activeOver_24 rfl (lv_at hl 2 rfl) ?_
      obtain ⟨r5, h4, hq3, hf⟩ := bnd_ok hf
      refine wk_callVi (ci := 4) (b := a0) (As := [.int ((h.1 (rF a0 2) (x4).toNatClampNeg)), .int x3]) (rest := []) S hK hN hH t0 (by decide) rfl (C_X4_goOver l X hI t0 (h.1 (rF a0 2) (x4).toNatClampNeg) x3 _ _ _ hq3) (cwV 2 hts (gV wU_in m_344 m_345 m_346 m_38 m_347) rfl rfl rfl hdV_X4_goOver ⟨Nat.le_of_ble_eq_true rfl, Nat.le_of_ble_eq_true rfl⟩) hl.1 rfl rfl (Nat.le_of_ble_eq_true rfl) dX4_activeOver_25 ⟨Nat.zero_le _, Nat.zero_le _⟩ (fun H locs hH => ?_)
      refine lv_istore (lv' := [(5, .int r5), (0, .ref (X.2.2.2 a0)), (2, .int x2), (3, .int x3), (4, .int x4)]) hx hb dX4_activeOver_28 hl (by decide) rfl (fun ls hl => ?_)
      refine lv_iload hx hb dX4_activeOver_30 (lv_at hl 0 rfl) ?_
      refine lv_iload_n hx hb dX4_activeOver_32 rfl (lv_at hl 3 rfl) ?_
      refine lv_icmp_eq (tgt := 48) hx hb dX4_activeOver_33 (by decide) (fun c6 => ?_) (fun c6 => ?_)
      · replace hf := ite_t c6 hf
        exact B48 k7 hk7 _ _ _ _ hf H locs ls (lv_sub hl [1, 2, 4, 0] rfl) hH
      · replace hf := ite_f c6 hf
        refine lv_iload_n hx hb dX4_activeOver_36 rfl (lv_at hl 2 rfl) ?_
        refine lv_iconst (v := 1) hx hb dX4_activeOver_37 (by decide) ?_
        refine lv_aload_n hx hb dX4_activeOver_38 rfl (lv_at hl 1 rfl) ?_
        refine wk_getr (ci := 4) (k := 2) S hK hH j_X4 t0 rfl hq_4_2 (hts _ (wU_in _ m_145)) dX4_activeOver_39 ?_
        refine lv_iload hx hb dX4_activeOver_42 (lv_at hl 4 rfl) ?_
        obtain ⟨o7, hf⟩ := ite_ok hf
        refine wk_iald S hK hH (tr_4_2 t0) o7 dX4_activeOver_44 ?_
        refine lv_ishl hx hb dX4_activeOver_45 ?_
        refine lv_ior hx hb dX4_activeOver_46 ?_
        refine lv_istore_n (lv' := [(2, .int ((x2 ||| ((1 : Int32) <<< ((h4.1 (rF a0 2) (x4).toNatClampNeg) &&& (31 : Int32)))))), (5, .int r5), (0, .ref (X.2.2.2 a0)), (3, .int x3), (4, .int x4)]) hx hb dX4_activeOver_47 rfl hl (by decide) rfl (fun ls hl => ?_)
        exact B48 k7 hk7 _ _ _ _ hf H locs ls (lv_sub hl [2, 0, 4, 1] rfl) hH
  have BL7 : ∀ (n : Nat) (x2 : Int32) (x3 : Int32) (x4 : Int32) (h : Hp), f_X4_activeOver_7 a0 a1 n x2 x3 x4 h = some (r0, h0) → BK p l e ({ frames := 2, cells := 0, slots := 0, locals := 53 }) s m args below meth c (MQ below (cQi X r0 h0) args s 0 0 (AD X)) X 6 7 [(0, .ref (X.2.2.2 a0)), (2, .int x2), (3, .int x3), (4, .int x4)] [] h := by
    intro n
    induction n with
    | zero => intro x2 x3 x4 h hf; cases hf
    | succ n ih => intro x2 x3 x4 h hf; exact B7 _ ih _ _ _ _ hf
  intro H locs ls hl hH
  replace hl : lv_has ls 6 [(0, .ref (X.2.2.2 a0)), (1, .int a1)] := hl
  unfold f_X4_activeOver at hf
  refine lv_iconst (v := 0) hx hb dX4_activeOver_0 (by decide) ?_
  refine lv_istore_n (lv' := [(2, .int ((0 : Int32))), (0, .ref (X.2.2.2 a0)), (1, .int a1)]) hx hb dX4_activeOver_1 rfl hl (by decide) rfl (fun ls hl => ?_)
  refine lv_iload_n hx hb dX4_activeOver_2 rfl (lv_at hl 2 rfl) ?_
  refine lv_istore_n (lv' := [(3, .int a1), (2, .int ((0 : Int32))), (0, .ref (X.2.2.2 a0)), (1, .int a1)]) hx hb dX4_activeOver_3 rfl hl (by decide) rfl (fun ls hl => ?_)
  refine lv_iconst (v := 0) hx hb dX4_activeOver_4 (by decide) ?_
  refine lv_istore (lv' := [(4, .int ((0 : Int32))), (3, .int a1), (2, .int ((0 : Int32))), (0, .ref (X.2.2.2 a0)), (1, .int a1)]) hx hb dX4_activeOver_5 hl (by decide) rfl (fun ls hl => ?_)
  exact BL7 FU _ _ _ _ hf H locs ls (lv_sub hl [3, 2, 1, 0] rfl) hH
set_option maxHeartbeats 4000000 in
set_option maxRecDepth 100000 in
theorem C_X4_activeChanges (l : Launch) (X : Cx) (hI : Inj X) {a0 : Nat} (t0 : tY a0 = 4) (h : Hp) (r0 : Int32) (h0 : Hp) (hf : f_X4_activeChanges a0 h = some (r0, h0)) : Mi l X yX4_activeChanges cX4_activeChanges 4 (some .int) 3 78 h [.ref (X.2.2.2 a0)] r0 h0 := by
  refine BD_of (own := RX4) hI rfl (by decide) (Nat.le_of_ble_eq_true rfl) ?_
  intro p e s m args below meth c S hr hlk hK hN
  obtain ⟨hx, hb, hml, hown, hts⟩ := id S
  have B17 : ∀ (k4 : Int32 → Int32 → Hp → Option (Int32 × Hp)) (hk4 : ∀ (x1 : Int32) (x2 : Int32) (h : Hp), k4 x1 x2 h = some (r0, h0) → BK p l e ({ frames := 3, cells := 0, slots := 0, locals := 78 }) s m args below meth c (MQ below (cQi X r0 h0) args s 0 0 (AD X)) X 4 4 [(0, .ref (X.2.2.2 a0)), (1, .int x1), (2, .int x2)] [] h) (k17 : Int32 → Int32 → Int32 → Hp → Option (Int32 × Hp)) (hk17 : ∀ (x1 : Int32) (x2 : Int32) (x3 : Int32) (h : Hp), k17 x1 x2 x3 h = some (r0, h0) → BK p l e ({ frames := 3, cells := 0, slots := 0, locals := 78 }) s m args below meth c (MQ below (cQi X r0 h0) args s 0 0 (AD X)) X 4 17 [(0, .ref (X.2.2.2 a0)), (1, .int x1), (2, .int x2), (3, .int x3)] [] h) (x1 : Int32) (x2 : Int32) (x3 : Int32) (h : Hp), g_X4_activeChanges_17 a0 k4 k17 x1 x2 x3 h = some (r0, h0) → BK p l e ({ frames := 3, cells := 0, slots := 0, locals := 78 }) s m args below meth c (MQ below (cQi X r0 h0) args s 0 0 (AD X)) X 4 17 [(0, .ref (X.2.2.2 a0)), (1, .int x1), (2, .int x2), (3, .int x3)] [] h := by
    intro k4 hk4 k17 hk17 x1 x2 x3 h hf H locs ls hl hH
    unfold g_X4_activeChanges_17 at hf
    refine lv_iload_n hx hb dX4_activeChanges_17 rfl (lv_at hl 3 rfl) ?_
    refine lv_aload_n hx hb dX4_activeChanges_18 rfl (lv_at hl 0 rfl) ?_
    refine wk_getr (ci := 4) (k := 0) S hK hH j_X4 t0 rfl hq_4_0 (hts _ (wU_in _ m_143)) dX4_activeChanges_19 ?_
    refine wk_getiN (ci := 2) (k := 3) S hK hH j_X2 (tr_4_0 t0) rfl hq_2_3 (hN _ n_127) dX4_activeChanges_22 ?_
    refine lv_icmp_ge (tgt := 50) hx hb dX4_activeChanges_25 (by decide) (fun c1 => ?_) (fun c1 => ?_)
    · replace hf := ite_t c1 hf
      refine lv_iinc (v := (x2 + (1 : Int32))) (lv' := [(2, .int ((x2 + (1 : Int32)))), (0, .ref (X.2.2.2 a0)), (1, .int x1), (3, .int x3)]) hx hb dX4_activeChanges_50 hl (k := 2) rfl rfl (by decide) rfl (fun ls hl => ?_)
      refine lv_goto (tgt := 4) hx hb dX4_activeChanges_53 (by decide) ?_
      exact hk4 _ _ _ hf H locs ls (lv_sub hl [1, 2, 0] rfl) hH
    · replace hf := ite_f c1 hf
      refine lv_iload_n hx hb dX4_activeChanges_28 rfl (lv_at hl 1 rfl) ?_
      refine lv_aload_n hx hb dX4_activeChanges_29 rfl (lv_at hl 0 rfl) ?_
      refine lv_aload_n hx hb dX4_activeChanges_30 rfl (lv_at hl 0 rfl) ?_
      refine wk_getr (ci := 4) (k := 0) S hK hH j_X4 t0 rfl hq_4_0 (hts _ (wU_in _ m_143)) dX4_activeChanges_31 ?_
      refine lv_iload_n hx hb dX4_activeChanges_34 rfl (lv_at hl 2 rfl) ?_
      refine lv_iload_n hx hb dX4_activeChanges_35 rfl (lv_at hl 3 rfl) ?_
      obtain ⟨r4, h3, hq2, hf⟩ := bnd_ok hf
      refine wk_callVi (ci := 2) (b := (rF a0 0)) (As := [.int x2, .int x3]) (rest := [.ref (X.2.2.2 a0), .int x1]) S hK hN hH (tr_4_0 t0) (by decide) rfl (C_X2_joined l X hI (tr_4_0 t0) x2 x3 _ _ _ hq2) (cwV 2 hts (gV wU_in m_333 m_334 m_335 m_37 m_336) rfl rfl rfl hdV_X2_joined ⟨Nat.le_of_ble_eq_true rfl, Nat.le_of_ble_eq_true rfl⟩) hl.1 rfl rfl (Nat.le_of_ble_eq_true rfl) dX4_activeChanges_36 ⟨Nat.zero_le _, Nat.zero_le _⟩ (fun H locs hH => ?_)
      obtain ⟨r7, h6, hq5, hf⟩ := bnd_ok hf
      refine wk_callVi (ci := 4) (b := a0) (As := [.int r4]) (rest := [.int x1]) S hK hN hH t0 (by decide) rfl (C_X4_activeOver l X hI t0 r4 _ _ _ hq5) (cwV 1 hts (gV wU_in m_363 m_365 m_8 m_38 m_366) rfl rfl rfl hdV_X4_activeOver ⟨Nat.le_of_ble_eq_true rfl, Nat.le_of_ble_eq_true rfl⟩) hl.1 rfl rfl (Nat.le_of_ble_eq_true rfl) dX4_activeChanges_39 ⟨Nat.zero_le _, Nat.zero_le _⟩ (fun H locs hH => ?_)
      refine lv_ior hx hb dX4_activeChanges_42 ?_
      refine lv_istore_n (lv' := [(1, .int ((x1 ||| r7))), (0, .ref (X.2.2.2 a0)), (2, .int x2), (3, .int x3)]) hx hb dX4_activeChanges_43 rfl hl (by decide) rfl (fun ls hl => ?_)
      refine lv_iinc (v := (x3 + (1 : Int32))) (lv' := [(3, .int ((x3 + (1 : Int32)))), (1, .int ((x1 ||| r7))), (0, .ref (X.2.2.2 a0)), (2, .int x2)]) hx hb dX4_activeChanges_44 hl (k := 3) rfl rfl (by decide) rfl (fun ls hl => ?_)
      refine lv_goto (tgt := 17) hx hb dX4_activeChanges_47 (by decide) ?_
      exact hk17 _ _ _ _ hf H locs ls (lv_sub hl [2, 1, 3, 0] rfl) hH
  have BL17 : ∀ (k4 : Int32 → Int32 → Hp → Option (Int32 × Hp)) (hk4 : ∀ (x1 : Int32) (x2 : Int32) (h : Hp), k4 x1 x2 h = some (r0, h0) → BK p l e ({ frames := 3, cells := 0, slots := 0, locals := 78 }) s m args below meth c (MQ below (cQi X r0 h0) args s 0 0 (AD X)) X 4 4 [(0, .ref (X.2.2.2 a0)), (1, .int x1), (2, .int x2)] [] h) (n : Nat) (x1 : Int32) (x2 : Int32) (x3 : Int32) (h : Hp), f_X4_activeChanges_17 a0 k4 n x1 x2 x3 h = some (r0, h0) → BK p l e ({ frames := 3, cells := 0, slots := 0, locals := 78 }) s m args below meth c (MQ below (cQi X r0 h0) args s 0 0 (AD X)) X 4 17 [(0, .ref (X.2.2.2 a0)), (1, .int x1), (2, .int x2), (3, .int x3)] [] h := by
    intro k4 hk4 n
    induction n with
    | zero => intro x1 x2 x3 h hf; cases hf
    | succ n ih => intro x1 x2 x3 h hf; exact B17 k4 hk4 _ ih _ _ _ _ hf
  have B4 : ∀ (k4 : Int32 → Int32 → Hp → Option (Int32 × Hp)) (hk4 : ∀ (x1 : Int32) (x2 : Int32) (h : Hp), k4 x1 x2 h = some (r0, h0) → BK p l e ({ frames := 3, cells := 0, slots := 0, locals := 78 }) s m args below meth c (MQ below (cQi X r0 h0) args s 0 0 (AD X)) X 4 4 [(0, .ref (X.2.2.2 a0)), (1, .int x1), (2, .int x2)] [] h) (x1 : Int32) (x2 : Int32) (h : Hp), g_X4_activeChanges_4 a0 k4 x1 x2 h = some (r0, h0) → BK p l e ({ frames := 3, cells := 0, slots := 0, locals := 78 }) s m args below meth c (MQ below (cQi X r0 h0) args s 0 0 (AD X)) X 4 4 [(0, .ref (X.2.2.2 a0)), (1, .int x1), (2, .int x2)] [] h := by
    intro k4 hk4 x1 x2 h hf H locs ls hl hH
    unfold g_X4_activeChanges_4 at hf
    refine lv_iload_n hx hb dX4_activeChanges_4 rfl (lv_at hl 2 rfl) ?_
    refine lv_aload_n hx hb dX4_activeChanges_5 rfl (lv_at hl 0 rfl) ?_
    refine wk_getr (ci := 4) (k := 0) S hK hH j_X4 t0 rfl hq_4_0 (hts _ (wU_in _ m_143)) dX4_activeChanges_6 ?_
    refine wk_getiN (ci := 2) (k := 2) S hK hH j_X2 (tr_4_0 t0) rfl hq_2_2 (hN _ n_124) dX4_activeChanges_9 ?_
    refine lv_icmp_ge (tgt := 56) hx hb dX4_activeChanges_12 (by decide) (fun c8 => ?_) (fun c8 => ?_)
    · replace hf := ite_t c8 hf
      refine lv_iload_n hx hb dX4_activeChanges_56 rfl (lv_at hl 1 rfl) ?_
      exact wk_iret S hr hlk hK hN hH hf dX4_activeChanges_57
    · replace hf := ite_f c8 hf
      refine lv_iconst (v := 0) hx hb dX4_activeChanges_15 (by decide) ?_
      refine lv_istore_n (lv' := [(3, .int ((0 : Int32))), (0, .ref (X.2.2.2 a0)), (1, .int x1), (2, .int x2)]) hx hb dX4_activeChanges_16 rfl hl (by decide) rfl (fun ls hl => ?_)
      exact BL17 k4 hk4 FU _ _ _ _ hf H locs ls (lv_sub hl [1, 2, 3, 0] rfl) hH
  have BL4 : ∀ (n : Nat) (x1 : Int32) (x2 : Int32) (h : Hp), f_X4_activeChanges_4 a0 n x1 x2 h = some (r0, h0) → BK p l e ({ frames := 3, cells := 0, slots := 0, locals := 78 }) s m args below meth c (MQ below (cQi X r0 h0) args s 0 0 (AD X)) X 4 4 [(0, .ref (X.2.2.2 a0)), (1, .int x1), (2, .int x2)] [] h := by
    intro n
    induction n with
    | zero => intro x1 x2 h hf; cases hf
    | succ n ih => intro x1 x2 h hf; exact B4 _ ih _ _ _ hf
  intro H locs ls hl hH
  replace hl : lv_has ls 4 [(0, .ref (X.2.2.2 a0))] := hl
  unfold f_X4_activeChanges at hf
  refine lv_iconst (v := 0) hx hb dX4_activeChanges_0 (by decide) ?_
  refine lv_istore_n (lv' := [(1, .int ((0 : Int32))), (0, .ref (X.2.2.2 a0))]) hx hb dX4_activeChanges_1 rfl hl (by decide) rfl (fun ls hl => ?_)
  refine lv_iconst (v := 0) hx hb dX4_activeChanges_2 (by decide) ?_
  refine lv_istore_n (lv' := [(2, .int ((0 : Int32))), (1, .int ((0 : Int32))), (0, .ref (X.2.2.2 a0))]) hx hb dX4_activeChanges_3 rfl hl (by decide) rfl (fun ls hl => ?_)
  exact BL4 FU _ _ _ hf H locs ls (lv_sub hl [2, 1, 0] rfl) hH
set_option maxHeartbeats 4000000 in
set_option maxRecDepth 100000 in
theorem C_X4_exceptions (l : Launch) (X : Cx) (hI : Inj X) {a0 : Nat} (t0 : tY a0 = 4) (h : Hp) (r0 : Int32) (h0 : Hp) (hf : f_X4_exceptions a0 h = some (r0, h0)) : Mi l X yX4_exceptions cX4_exceptions 5 (some .int) 4 99 h [.ref (X.2.2.2 a0)] r0 h0 := by
  refine BD_of (own := RX4) hI rfl (by decide) (Nat.le_of_ble_eq_true rfl) ?_
  intro p e s m args below meth c S hr hlk hK hN
  obtain ⟨hx, hb, hml, hown, hts⟩ := id S
  have B57 : ∀ (k4 : Int32 → Int32 → Hp → Option (Int32 × Hp)) (hk4 : ∀ (x1 : Int32) (x2 : Int32) (h : Hp), k4 x1 x2 h = some (r0, h0) → BK p l e ({ frames := 4, cells := 0, slots := 0, locals := 99 }) s m args below meth c (MQ below (cQi X r0 h0) args s 0 0 (AD X)) X 5 4 [(0, .ref (X.2.2.2 a0)), (1, .int x1), (2, .int x2)] [] h) (k17 : Int32 → Int32 → Int32 → Hp → Option (Int32 × Hp)) (hk17 : ∀ (x1 : Int32) (x2 : Int32) (x3 : Int32) (h : Hp), k17 x1 x2 x3 h = some (r0, h0) → BK p l e ({ frames := 4, cells := 0, slots := 0, locals := 99 }) s m args below meth c (MQ below (cQi X r0 h0) args s 0 0 (AD X)) X 5 17 [(0, .ref (X.2.2.2 a0)), (1, .int x1), (2, .int x2), (3, .int x3)] [] h) (x1 : Int32) (x2 : Int32) (x3 : Int32) (h : Hp), g_X4_exceptions_57 a0 k4 k17 x1 x2 x3 h = some (r0, h0) → BK p l e ({ frames := 4, cells := 0, slots := 0, locals := 99 }) s m args below meth c (MQ below (cQi X r0 h0) args s 0 0 (AD X)) X 5 57 [(0, .ref (X.2.2.2 a0)), (1, .int x1), (2, .int x2), (3, .int x3)] [] h := by
    intro k4 hk4 k17 hk17 x1 x2 x3 h hf H locs ls hl hH
    unfold g_X4_exceptions_57 at hf
    refine lv_iinc (v := (x3 + (1 : Int32))) (lv' := [(3, .int ((x3 + (1 : Int32)))), (0, .ref (X.2.2.2 a0)), (1, .int x1), (2, .int x2)]) hx hb dX4_exceptions_57 hl (k := 3) rfl rfl (by decide) rfl (fun ls hl => ?_)
    refine lv_goto (tgt := 17) hx hb dX4_exceptions_60 (by decide) ?_
    exact hk17 _ _ _ _ hf H locs ls (lv_sub hl [1, 2, 3, 0] rfl) hH
  have B17 : ∀ (k4 : Int32 → Int32 → Hp → Option (Int32 × Hp)) (hk4 : ∀ (x1 : Int32) (x2 : Int32) (h : Hp), k4 x1 x2 h = some (r0, h0) → BK p l e ({ frames := 4, cells := 0, slots := 0, locals := 99 }) s m args below meth c (MQ below (cQi X r0 h0) args s 0 0 (AD X)) X 5 4 [(0, .ref (X.2.2.2 a0)), (1, .int x1), (2, .int x2)] [] h) (k17 : Int32 → Int32 → Int32 → Hp → Option (Int32 × Hp)) (hk17 : ∀ (x1 : Int32) (x2 : Int32) (x3 : Int32) (h : Hp), k17 x1 x2 x3 h = some (r0, h0) → BK p l e ({ frames := 4, cells := 0, slots := 0, locals := 99 }) s m args below meth c (MQ below (cQi X r0 h0) args s 0 0 (AD X)) X 5 17 [(0, .ref (X.2.2.2 a0)), (1, .int x1), (2, .int x2), (3, .int x3)] [] h) (x1 : Int32) (x2 : Int32) (x3 : Int32) (h : Hp), g_X4_exceptions_17 a0 k4 k17 x1 x2 x3 h = some (r0, h0) → BK p l e ({ frames := 4, cells := 0, slots := 0, locals := 99 }) s m args below meth c (MQ below (cQi X r0 h0) args s 0 0 (AD X)) X 5 17 [(0, .ref (X.2.2.2 a0)), (1, .int x1), (2, .int x2), (3, .int x3)] [] h := by
    intro k4 hk4 k17 hk17 x1 x2 x3 h hf H locs ls hl hH
    unfold g_X4_exceptions_17 at hf
    refine lv_iload_n hx hb dX4_exceptions_17 rfl (lv_at hl 3 rfl) ?_
    refine lv_aload_n hx hb dX4_exceptions_18 rfl (lv_at hl 0 rfl) ?_
    refine wk_getr (ci := 4) (k := 0) S hK hH j_X4 t0 rfl hq_4_0 (hts _ (wU_in _ m_143)) dX4_exceptions_19 ?_
    refine wk_getiN (ci := 2) (k := 3) S hK hH j_X2 (tr_4_0 t0) rfl hq_2_3 (hN _ n_127) dX4_exceptions_22 ?_
    refine lv_icmp_ge (tgt := 63) hx hb dX4_exceptions_25 (by decide) (fun c1 => ?_) (fun c1 => ?_)
    · replace hf := ite_t c1 hf
      refine lv_iinc (v := (x2 + (1 : Int32))) (lv' := [(2, .int ((x2 + (1 : Int32)))), (0, .ref (X.2.2.2 a0)), (1, .int x1), (3, .int x3)]) hx hb dX4_exceptions_63 hl (k := 2) rfl rfl (by decide) rfl (fun ls hl => ?_)
      refine lv_goto (tgt := 4) hx hb dX4_exceptions_66 (by decide) ?_
      exact hk4 _ _ _ hf H locs ls (lv_sub hl [1, 2, 0] rfl) hH
    · replace hf := ite_f c1 hf
      refine lv_aload_n hx hb dX4_exceptions_28 rfl (lv_at hl 0 rfl) ?_
      refine lv_iload_n hx hb dX4_exceptions_29 rfl (lv_at hl 2 rfl) ?_
      refine lv_iload_n hx hb dX4_exceptions_30 rfl (lv_at hl 3 rfl) ?_
      obtain ⟨r4, h3, hq2, hf⟩ := bnd_ok hf
      refine wk_callVi (ci := 4) (b := a0) (As := [.int x2, .int x3]) (rest := []) S hK hN hH t0 (by decide) rfl (C_X4_formOf l X hI t0 x2 x3 _ _ _ hq2) (cwV 2 hts (gV wU_in m_371 m_372 m_373 m_38 m_374) rfl rfl rfl hdV_X4_formOf ⟨Nat.le_of_ble_eq_true rfl, Nat.le_of_ble_eq_true rfl⟩) hl.1 rfl rfl (Nat.le_of_ble_eq_true rfl) dX4_exceptions_31 ⟨Nat.zero_le _, Nat.zero_le _⟩ (fun H locs hH => ?_)
      refine lv_istore (lv' := [(4, .int r4), (0, .ref (X.2.2.2 a0)), (1, .int x1), (2, .int x2), (3, .int x3)]) hx hb dX4_exceptions_34 hl (by decide) rfl (fun ls hl => ?_)
      refine lv_iload hx hb dX4_exceptions_36 (lv_at hl 0 rfl) ?_
      refine lv_bipush (v := (-9)) hx hb dX4_exceptions_38 (by decide) ?_
      refine lv_icmp_eq (tgt := 57) hx hb dX4_exceptions_40 (by decide) (fun c5 => ?_) (fun c5 => ?_)
      · replace hf := ite_t c5 hf
        exact B57 k4 hk4 k17 hk17 _ _ _ _ hf H locs ls (lv_sub hl [1, 2, 3, 4] rfl) hH
      · replace hf := ite_f c5 hf
        refine lv_iload hx hb dX4_exceptions_43 (lv_at hl 0 rfl) ?_
        refine lv_aload_n hx hb dX4_exceptions_45 rfl (lv_at hl 1 rfl) ?_
        refine lv_iload_n hx hb dX4_exceptions_46 rfl (lv_at hl 3 rfl) ?_
        refine lv_iload_n hx hb dX4_exceptions_47 rfl (lv_at hl 4 rfl) ?_
        obtain ⟨r8, h7, hq6, hf⟩ := bnd_ok hf
        refine wk_callVi (ci := 4) (b := a0) (As := [.int x2, .int x3]) (rest := [.int r4]) S hK hN hH t0 (by decide) rfl (C_X4_makeOf l X hI t0 x2 x3 _ _ _ hq6) (cwV 2 hts (gV wU_in m_375 m_376 m_377 m_38 m_378) rfl rfl rfl hdV_X4_makeOf ⟨Nat.le_of_ble_eq_true rfl, Nat.le_of_ble_eq_true rfl⟩) hl.1 rfl rfl (Nat.le_of_ble_eq_true rfl) dX4_exceptions_48 ⟨Nat.zero_le _, Nat.zero_le _⟩ (fun H locs hH => ?_)
        refine lv_icmp_eq (tgt := 57) hx hb dX4_exceptions_51 (by decide) (fun c9 => ?_) (fun c9 => ?_)
        · replace hf := ite_t c9 hf
          exact B57 k4 hk4 k17 hk17 _ _ _ _ hf H locs ls (lv_sub hl [1, 2, 3, 4] rfl) hH
        · replace hf := ite_f c9 hf
          refine lv_iinc (v := (x1 + (1 : Int32))) (lv' := [(1, .int ((x1 + (1 : Int32)))), (4, .int r4), (0, .ref (X.2.2.2 a0)), (2, .int x2), (3, .int x3)]) hx hb dX4_exceptions_54 hl (k := 2) rfl rfl (by decide) rfl (fun ls hl => ?_)
          exact B57 k4 hk4 k17 hk17 _ _ _ _ hf H locs ls (lv_sub hl [2, 0, 3, 4] rfl) hH
  have BL17 : ∀ (k4 : Int32 → Int32 → Hp → Option (Int32 × Hp)) (hk4 : ∀ (x1 : Int32) (x2 : Int32) (h : Hp), k4 x1 x2 h = some (r0, h0) → BK p l e ({ frames := 4, cells := 0, slots := 0, locals := 99 }) s m args below meth c (MQ below (cQi X r0 h0) args s 0 0 (AD X)) X 5 4 [(0, .ref (X.2.2.2 a0)), (1, .int x1), (2, .int x2)] [] h) (n : Nat) (x1 : Int32) (x2 : Int32) (x3 : Int32) (h : Hp), f_X4_exceptions_17 a0 k4 n x1 x2 x3 h = some (r0, h0) → BK p l e ({ frames := 4, cells := 0, slots := 0, locals := 99 }) s m args below meth c (MQ below (cQi X r0 h0) args s 0 0 (AD X)) X 5 17 [(0, .ref (X.2.2.2 a0)), (1, .int x1), (2, .int x2), (3, .int x3)] [] h := by
    intro k4 hk4 n
    induction n with
    | zero => intro x1 x2 x3 h hf; cases hf
    | succ n ih => intro x1 x2 x3 h hf; exact B17 k4 hk4 _ ih _ _ _ _ hf
  have B4 : ∀ (k4 : Int32 → Int32 → Hp → Option (Int32 × Hp)) (hk4 : ∀ (x1 : Int32) (x2 : Int32) (h : Hp), k4 x1 x2 h = some (r0, h0) → BK p l e ({ frames := 4, cells := 0, slots := 0, locals := 99 }) s m args below meth c (MQ below (cQi X r0 h0) args s 0 0 (AD X)) X 5 4 [(0, .ref (X.2.2.2 a0)), (1, .int x1), (2, .int x2)] [] h) (x1 : Int32) (x2 : Int32) (h : Hp), g_X4_exceptions_4 a0 k4 x1 x2 h = some (r0, h0) → BK p l e ({ frames := 4, cells := 0, slots := 0, locals := 99 }) s m args below meth c (MQ below (cQi X r0 h0) args s 0 0 (AD X)) X 5 4 [(0, .ref (X.2.2.2 a0)), (1, .int x1), (2, .int x2)] [] h := by
    intro k4 hk4 x1 x2 h hf H locs ls hl hH
    unfold g_X4_exceptions_4 at hf
    refine lv_iload_n hx hb dX4_exceptions_4 rfl (lv_at hl 2 rfl) ?_
    refine lv_aload_n hx hb dX4_exceptions_5 rfl (lv_at hl 0 rfl) ?_
    refine wk_getr (ci := 4) (k := 0) S hK hH j_X4 t0 rfl hq_4_0 (hts _ (wU_in _ m_143)) dX4_exceptions_6 ?_
    refine wk_getiN (ci := 2) (k := 2) S hK hH j_X2 (tr_4_0 t0) rfl hq_2_2 (hN _ n_124) dX4_exceptions_9 ?_
    refine lv_icmp_ge (tgt := 69) hx hb dX4_exceptions_12 (by decide) (fun c10 => ?_) (fun c10 => ?_)
    · replace hf := ite_t c10 hf
      refine lv_iload_n hx hb dX4_exceptions_69 rfl (lv_at hl 1 rfl) ?_
      exact wk_iret S hr hlk hK hN hH hf dX4_exceptions_70
    · replace hf := ite_f c10 hf
      refine lv_iconst (v := 0) hx hb dX4_exceptions_15 (by decide) ?_
      refine lv_istore_n (lv' := [(3, .int ((0 : Int32))), (0, .ref (X.2.2.2 a0)), (1, .int x1), (2, .int x2)]) hx hb dX4_exceptions_16 rfl hl (by decide) rfl (fun ls hl => ?_)
      exact BL17 k4 hk4 FU _ _ _ _ hf H locs ls (lv_sub hl [1, 2, 3, 0] rfl) hH
  have BL4 : ∀ (n : Nat) (x1 : Int32) (x2 : Int32) (h : Hp), f_X4_exceptions_4 a0 n x1 x2 h = some (r0, h0) → BK p l e ({ frames := 4, cells := 0, slots := 0, locals := 99 }) s m args below meth c (MQ below (cQi X r0 h0) args s 0 0 (AD X)) X 5 4 [(0, .ref (X.2.2.2 a0)), (1, .int x1), (2, .int x2)] [] h := by
    intro n
    induction n with
    | zero => intro x1 x2 h hf; cases hf
    | succ n ih => intro x1 x2 h hf; exact B4 _ ih _ _ _ hf
  intro H locs ls hl hH
  replace hl : lv_has ls 5 [(0, .ref (X.2.2.2 a0))] := hl
  unfold f_X4_exceptions at hf
  refine lv_iconst (v := 0) hx hb dX4_exceptions_0 (by decide) ?_
  refine lv_istore_n (lv' := [(1, .int ((0 : Int32))), (0, .ref (X.2.2.2 a0))]) hx hb dX4_exceptions_1 rfl hl (by decide) rfl (fun ls hl => ?_)
  refine lv_iconst (v := 0) hx hb dX4_exceptions_2 (by decide) ?_
  refine lv_istore_n (lv' := [(2, .int ((0 : Int32))), (1, .int ((0 : Int32))), (0, .ref (X.2.2.2 a0))]) hx hb dX4_exceptions_3 rfl hl (by decide) rfl (fun ls hl => ?_)
  exact BL4 FU _ _ _ hf H locs ls (lv_sub hl [2, 1, 0] rfl) hH
set_option maxHeartbeats 4000000 in
set_option maxRecDepth 100000 in
theorem C_X4_doCross (l : Launch) (X : Cx) (hI : Inj X) {a0 : Nat} (t0 : tY a0 = 4) (a1 : Int32) (a2 : Int32) (h : Hp) (r0 : Int32) (h0 : Hp) (hf : f_X4_doCross a0 a1 a2 h = some (r0, h0)) : Mi l X yX4_doCross cX4_doCross 6 (some .boolean) 2 53 h [.ref (X.2.2.2 a0), .int a1, .int a2] r0 h0 := by
  refine BD_of (own := RX4) hI rfl (by decide) (Nat.le_of_ble_eq_true rfl) ?_
  intro p e s m args below meth c S hr hlk hK hN
  obtain ⟨hx, hb, hml, hown, hts⟩ := id S
  have B16 : ∀ (k2 : Int32 → Hp → Option (Int32 × Hp)) (hk2 : ∀ (x3 : Int32) (h : Hp), k2 x3 h = some (r0, h0) → BK p l e ({ frames := 2, cells := 0, slots := 0, locals := 53 }) s m args below meth c (MQ below (cQi X r0 h0) args s 0 0 (AD X)) X 6 2 [(0, .ref (X.2.2.2 a0)), (1, .int a1), (2, .int a2), (3, .int x3)] [] h) (k16 : Int32 → Int32 → Hp → Option (Int32 × Hp)) (hk16 : ∀ (x3 : Int32) (x4 : Int32) (h : Hp), k16 x3 x4 h = some (r0, h0) → BK p l e ({ frames := 2, cells := 0, slots := 0, locals := 53 }) s m args below meth c (MQ below (cQi X r0 h0) args s 0 0 (AD X)) X 6 16 [(0, .ref (X.2.2.2 a0)), (1, .int a1), (2, .int a2), (3, .int x3), (4, .int x4)] [] h) (x3 : Int32) (x4 : Int32) (h : Hp), g_X4_doCross_16 a0 a1 a2 k2 k16 x3 x4 h = some (r0, h0) → BK p l e ({ frames := 2, cells := 0, slots := 0, locals := 53 }) s m args below meth c (MQ below (cQi X r0 h0) args s 0 0 (AD X)) X 6 16 [(0, .ref (X.2.2.2 a0)), (1, .int a1), (2, .int a2), (3, .int x3), (4, .int x4)] [] h := by
    intro k2 hk2 k16 hk16 x3 x4 h hf H locs ls hl hH
    unfold g_X4_doCross_16 at hf
    refine lv_iload hx hb dX4_doCross_16 (lv_at hl 4 rfl) ?_
    refine lv_aload_n hx hb dX4_doCross_18 rfl (lv_at hl 0 rfl) ?_
    refine wk_getr (ci := 4) (k := 0) S hK hH j_X4 t0 rfl hq_4_0 (hts _ (wU_in _ m_143)) dX4_doCross_19 ?_
    refine wk_getiN (ci := 2) (k := 3) S hK hH j_X2 (tr_4_0 t0) rfl hq_2_3 (hN _ n_127) dX4_doCross_22 ?_
    refine lv_icmp_ge (tgt := 75) hx hb dX4_doCross_25 (by decide) (fun c1 => ?_) (fun c1 => ?_)
    · replace hf := ite_t c1 hf
      refine lv_iinc (v := (x3 + (1 : Int32))) (lv' := [(3, .int ((x3 + (1 : Int32)))), (0, .ref (X.2.2.2 a0)), (1, .int a1), (2, .int a2), (4, .int x4)]) hx hb dX4_doCross_75 hl (k := 3) rfl rfl (by decide) rfl (fun ls hl => ?_)
      refine lv_goto (tgt := 2) hx hb dX4_doCross_78 (by decide) ?_
      exact hk2 _ _ hf H locs ls (lv_sub hl [1, 2, 3, 0] rfl) hH
    · replace hf := ite_f c1 hf
      refine lv_aload_n hx hb dX4_doCross_28 rfl (lv_at hl 0 rfl) ?_
      refine wk_getr (ci := 4) (k := 0) S hK hH j_X4 t0 rfl hq_4_0 (hts _ (wU_in _ m_143)) dX4_doCross_29 ?_
      refine lv_iload_n hx hb dX4_doCross_32 rfl (lv_at hl 3 rfl) ?_
      refine lv_iload hx hb dX4_doCross_33 (lv_at hl 4 rfl) ?_
      obtain ⟨r4, h3, hq2, hf⟩ := bnd_ok hf
      refine wk_callVi (ci := 2) (b := (rF a0 0)) (As := [.int x3, .int x4]) (rest := []) S hK hN hH (tr_4_0 t0) (by decide) rfl (C_X2_joined l X hI (tr_4_0 t0) x3 x4 _ _ _ hq2) (cwV 2 hts (gV wU_in m_333 m_334 m_335 m_37 m_336) rfl rfl rfl hdV_X2_joined ⟨Nat.le_of_ble_eq_true rfl, Nat.le_of_ble_eq_true rfl⟩) hl.1 rfl rfl (Nat.le_of_ble_eq_true rfl) dX4_doCross_35 ⟨Nat.zero_le _, Nat.zero_le _⟩ (fun H locs hH => ?_)
      refine lv_istore (lv' := [(5, .int r4), (0, .ref (X.2.2.2 a0)), (1, .int a1), (2, .int a2), (3, .int x3), (4, .int x4)]) hx hb dX4_doCross_38 hl (by decide) rfl (fun ls hl => ?_)
      refine lv_aload_n hx hb dX4_doCross_40 rfl (lv_at hl 1 rfl) ?_
      refine lv_iload_n hx hb dX4_doCross_41 rfl (lv_at hl 3 rfl) ?_
      refine lv_aload_n hx hb dX4_doCross_42 rfl (lv_at hl 1 rfl) ?_
      refine lv_iload_n hx hb dX4_doCross_43 rfl (lv_at hl 2 rfl) ?_
      refine lv_iload hx hb dX4_doCross_44 (lv_at hl 0 rfl) ?_
      obtain ⟨r7, h6, hq5, hf⟩ := bnd_ok hf
      refine wk_callVi (ci := 4) (b := a0) (As := [.int a1, .int r4]) (rest := [.int a2, .ref (X.2.2.2 a0)]) S hK hN hH t0 (by decide) rfl (C_X4_goOver l X hI t0 a1 r4 _ _ _ hq5) (cwV 2 hts (gV wU_in m_344 m_345 m_346 m_38 m_347) rfl rfl rfl hdV_X4_goOver ⟨Nat.le_of_ble_eq_true rfl, Nat.le_of_ble_eq_true rfl⟩) hl.1 rfl rfl (Nat.le_of_ble_eq_true rfl) dX4_doCross_46 ⟨Nat.zero_le _, Nat.zero_le _⟩ (fun H locs hH => ?_)
      obtain ⟨r10, h9, hq8, hf⟩ := bnd_ok hf
      refine wk_callVi (ci := 4) (b := a0) (As := [.int a2, .int r7]) (rest := []) S hK hN hH t0 (by decide) rfl (C_X4_goOver l X hI t0 a2 r7 _ _ _ hq8) (cwV 2 hts (gV wU_in m_344 m_345 m_346 m_38 m_347) rfl rfl rfl hdV_X4_goOver ⟨Nat.le_of_ble_eq_true rfl, Nat.le_of_ble_eq_true rfl⟩) hl.1 rfl rfl (Nat.le_of_ble_eq_true rfl) dX4_doCross_49 ⟨Nat.zero_le _, Nat.zero_le _⟩ (fun H locs hH => ?_)
      refine lv_aload_n hx hb dX4_doCross_52 rfl (lv_at hl 1 rfl) ?_
      refine lv_iload_n hx hb dX4_doCross_53 rfl (lv_at hl 2 rfl) ?_
      refine lv_aload_n hx hb dX4_doCross_54 rfl (lv_at hl 1 rfl) ?_
      refine lv_iload_n hx hb dX4_doCross_55 rfl (lv_at hl 3 rfl) ?_
      refine lv_iload hx hb dX4_doCross_56 (lv_at hl 0 rfl) ?_
      obtain ⟨r13, h12, hq11, hf⟩ := bnd_ok hf
      refine wk_callVi (ci := 4) (b := a0) (As := [.int a2, .int r4]) (rest := [.int a1, .ref (X.2.2.2 a0), .int r10]) S hK hN hH t0 (by decide) rfl (C_X4_goOver l X hI t0 a2 r4 _ _ _ hq11) (cwV 2 hts (gV wU_in m_344 m_345 m_346 m_38 m_347) rfl rfl rfl hdV_X4_goOver ⟨Nat.le_of_ble_eq_true rfl, Nat.le_of_ble_eq_true rfl⟩) hl.1 rfl rfl (Nat.le_of_ble_eq_true rfl) dX4_doCross_58 ⟨Nat.zero_le _, Nat.zero_le _⟩ (fun H locs hH => ?_)
      obtain ⟨r16, h15, hq14, hf⟩ := bnd_ok hf
      refine wk_callVi (ci := 4) (b := a0) (As := [.int a1, .int r13]) (rest := [.int r10]) S hK hN hH t0 (by decide) rfl (C_X4_goOver l X hI t0 a1 r13 _ _ _ hq14) (cwV 2 hts (gV wU_in m_344 m_345 m_346 m_38 m_347) rfl rfl rfl hdV_X4_goOver ⟨Nat.le_of_ble_eq_true rfl, Nat.le_of_ble_eq_true rfl⟩) hl.1 rfl rfl (Nat.le_of_ble_eq_true rfl) dX4_doCross_61 ⟨Nat.zero_le _, Nat.zero_le _⟩ (fun H locs hH => ?_)
      refine lv_icmp_eq (tgt := 69) hx hb dX4_doCross_64 (by decide) (fun c17 => ?_) (fun c17 => ?_)
      · replace hf := ite_t c17 hf
        refine lv_iinc (v := (x4 + (1 : Int32))) (lv' := [(4, .int ((x4 + (1 : Int32)))), (5, .int r4), (0, .ref (X.2.2.2 a0)), (1, .int a1), (2, .int a2), (3, .int x3)]) hx hb dX4_doCross_69 hl (k := 5) rfl rfl (by decide) rfl (fun ls hl => ?_)
        refine lv_goto (tgt := 16) hx hb dX4_doCross_72 (by decide) ?_
        exact hk16 _ _ _ hf H locs ls (lv_sub hl [2, 3, 4, 5, 0] rfl) hH
      · replace hf := ite_f c17 hf
        refine lv_iconst (v := 1) hx hb dX4_doCross_67 (by decide) ?_
        exact wk_zret S hr hlk hK hN hH rfl hf dX4_doCross_68
  have BL16 : ∀ (k2 : Int32 → Hp → Option (Int32 × Hp)) (hk2 : ∀ (x3 : Int32) (h : Hp), k2 x3 h = some (r0, h0) → BK p l e ({ frames := 2, cells := 0, slots := 0, locals := 53 }) s m args below meth c (MQ below (cQi X r0 h0) args s 0 0 (AD X)) X 6 2 [(0, .ref (X.2.2.2 a0)), (1, .int a1), (2, .int a2), (3, .int x3)] [] h) (n : Nat) (x3 : Int32) (x4 : Int32) (h : Hp), f_X4_doCross_16 a0 a1 a2 k2 n x3 x4 h = some (r0, h0) → BK p l e ({ frames := 2, cells := 0, slots := 0, locals := 53 }) s m args below meth c (MQ below (cQi X r0 h0) args s 0 0 (AD X)) X 6 16 [(0, .ref (X.2.2.2 a0)), (1, .int a1), (2, .int a2), (3, .int x3), (4, .int x4)] [] h := by
    intro k2 hk2 n
    induction n with
    | zero => intro x3 x4 h hf; cases hf
    | succ n ih => intro x3 x4 h hf; exact B16 k2 hk2 _ ih _ _ _ hf
  have B2 : ∀ (k2 : Int32 → Hp → Option (Int32 × Hp)) (hk2 : ∀ (x3 : Int32) (h : Hp), k2 x3 h = some (r0, h0) → BK p l e ({ frames := 2, cells := 0, slots := 0, locals := 53 }) s m args below meth c (MQ below (cQi X r0 h0) args s 0 0 (AD X)) X 6 2 [(0, .ref (X.2.2.2 a0)), (1, .int a1), (2, .int a2), (3, .int x3)] [] h) (x3 : Int32) (h : Hp), g_X4_doCross_2 a0 a1 a2 k2 x3 h = some (r0, h0) → BK p l e ({ frames := 2, cells := 0, slots := 0, locals := 53 }) s m args below meth c (MQ below (cQi X r0 h0) args s 0 0 (AD X)) X 6 2 [(0, .ref (X.2.2.2 a0)), (1, .int a1), (2, .int a2), (3, .int x3)] [] h := by
    intro k2 hk2 x3 h hf H locs ls hl hH
    unfold g_X4_doCross_2 at hf
    refine lv_iload_n hx hb dX4_doCross_2 rfl (lv_at hl 3 rfl) ?_
    refine lv_aload_n hx hb dX4_doCross_3 rfl (lv_at hl 0 rfl) ?_
    refine wk_getr (ci := 4) (k := 0) S hK hH j_X4 t0 rfl hq_4_0 (hts _ (wU_in _ m_143)) dX4_doCross_4 ?_
    refine wk_getiN (ci := 2) (k := 2) S hK hH j_X2 (tr_4_0 t0) rfl hq_2_2 (hN _ n_124) dX4_doCross_7 ?_
    refine lv_icmp_ge (tgt := 81) hx hb dX4_doCross_10 (by decide) (fun c18 => ?_) (fun c18 => ?_)
    · replace hf := ite_t c18 hf
      refine lv_iconst (v := 0) hx hb dX4_doCross_81 (by decide) ?_
      exact wk_zret S hr hlk hK hN hH rfl hf dX4_doCross_82
    · replace hf := ite_f c18 hf
      refine lv_iconst (v := 0) hx hb dX4_doCross_13 (by decide) ?_
      refine lv_istore (lv' := [(4, .int ((0 : Int32))), (0, .ref (X.2.2.2 a0)), (1, .int a1), (2, .int a2), (3, .int x3)]) hx hb dX4_doCross_14 hl (by decide) rfl (fun ls hl => ?_)
      exact BL16 k2 hk2 FU _ _ _ hf H locs ls (lv_sub hl [1, 2, 3, 4, 0] rfl) hH
  have BL2 : ∀ (n : Nat) (x3 : Int32) (h : Hp), f_X4_doCross_2 a0 a1 a2 n x3 h = some (r0, h0) → BK p l e ({ frames := 2, cells := 0, slots := 0, locals := 53 }) s m args below meth c (MQ below (cQi X r0 h0) args s 0 0 (AD X)) X 6 2 [(0, .ref (X.2.2.2 a0)), (1, .int a1), (2, .int a2), (3, .int x3)] [] h := by
    intro n
    induction n with
    | zero => intro x3 h hf; cases hf
    | succ n ih => intro x3 h hf; exact B2 _ ih _ _ hf
  intro H locs ls hl hH
  replace hl : lv_has ls 6 [(0, .ref (X.2.2.2 a0)), (1, .int a1), (2, .int a2)] := hl
  unfold f_X4_doCross at hf
  refine lv_iconst (v := 0) hx hb dX4_doCross_0 (by decide) ?_
  refine lv_istore_n (lv' := [(3, .int ((0 : Int32))), (0, .ref (X.2.2.2 a0)), (1, .int a1), (2, .int a2)]) hx hb dX4_doCross_1 rfl hl (by decide) rfl (fun ls hl => ?_)
  exact BL2 FU _ _ hf H locs ls (lv_sub hl [1, 2, 3, 0] rfl) hH
set_option maxHeartbeats 4000000 in
set_option maxRecDepth 100000 in
theorem C_X5_isWord (l : Launch) (X : Cx) (hI : Inj X) (a0 : Int32) (h : Hp) (r0 : Int32) (h0 : Hp) (hf : f_X5_isWord a0 h = some (r0, h0)) : Mi l X yX5_isWord cX5_isWord 4 (some .boolean) 0 0 h [.int a0] r0 h0 := by
  refine BD_of (own := RX5) hI rfl (by decide) (Nat.le_of_ble_eq_true rfl) ?_
  intro p e s m args below meth c S hr hlk hK hN
  obtain ⟨hx, hb, hml, hown, hts⟩ := id S
  have B16 : ∀ (k16 : Int32 → Int32 → Hp → Option (Int32 × Hp)) (hk16 : ∀ (x1 : Int32) (x2 : Int32) (h : Hp), k16 x1 x2 h = some (r0, h0) → BK p l e ({ frames := 0, cells := 0, slots := 0, locals := 0 }) s m args below meth c (MQ below (cQi X r0 h0) args s 0 0 (AD X)) X 4 16 [(1, .int x1), (2, .int x2)] [] h) (x1 : Int32) (x2 : Int32) (h : Hp), g_X5_isWord_16 a0 k16 x1 x2 h = some (r0, h0) → BK p l e ({ frames := 0, cells := 0, slots := 0, locals := 0 }) s m args below meth c (MQ below (cQi X r0 h0) args s 0 0 (AD X)) X 4 16 [(1, .int x1), (2, .int x2)] [] h := by
    intro k16 hk16 x1 x2 h hf H locs ls hl hH
    unfold g_X5_isWord_16 at hf
    refine lv_iload_n hx hb dX5_isWord_16 rfl (lv_at hl 1 rfl) ?_
    refine lv_bipush (v := 6) hx hb dX5_isWord_17 (by decide) ?_
    refine lv_icmp_ge (tgt := 54) hx hb dX5_isWord_19 (by decide) (fun c1 => ?_) (fun c1 => ?_)
    · replace hf := ite_t c1 hf
      refine lv_iconst (v := 1) hx hb dX5_isWord_54 (by decide) ?_
      exact wk_zret S hr hlk hK hN hH rfl hf dX5_isWord_55
    · replace hf := ite_f c1 hf
      refine lv_iload_n hx hb dX5_isWord_22 rfl (lv_at hl 0 rfl) ?_
      refine lv_if_le (tgt := 54) hx hb dX5_isWord_23 (by decide) (fun c2 => ?_) (fun c2 => ?_)
      · replace hf := ite_t c2 hf
        refine lv_iconst (v := 1) hx hb dX5_isWord_54 (by decide) ?_
        exact wk_zret S hr hlk hK hN hH rfl hf dX5_isWord_55
      · replace hf := ite_f c2 hf
        refine lv_iload_n hx hb dX5_isWord_26 rfl (lv_at hl 0 rfl) ?_
        refine lv_bipush (v := 10) hx hb dX5_isWord_27 (by decide) ?_
        refine lv_irem hx hb dX5_isWord_29 (by decide) ?_
        refine lv_istore_n (lv' := [(3, .int ((x1 - x1 / (10 : Int32) * (10 : Int32)))), (1, .int x1), (2, .int x2)]) hx hb dX5_isWord_30 rfl hl (by decide) rfl (fun ls hl => ?_)
        refine lv_iload_n hx hb dX5_isWord_31 rfl (lv_at hl 0 rfl) ?_
        refine lv_iconst (v := 1) hx hb dX5_isWord_32 (by decide) ?_
        refine lv_icmp_lt (tgt := 41) hx hb dX5_isWord_33 (by decide) (fun c3 => ?_) (fun c3 => ?_)
        · replace hf := ite_t c3 hf
          refine lv_iconst (v := 0) hx hb dX5_isWord_41 (by decide) ?_
          exact wk_zret S hr hlk hK hN hH rfl hf dX5_isWord_42
        · replace hf := ite_f c3 hf
          refine lv_iload_n hx hb dX5_isWord_36 rfl (lv_at hl 0 rfl) ?_
          refine lv_iconst (v := 5) hx hb dX5_isWord_37 (by decide) ?_
          refine lv_icmp_le (tgt := 43) hx hb dX5_isWord_38 (by decide) (fun c4 => ?_) (fun c4 => ?_)
          · replace hf := ite_t c4 hf
            refine lv_iload_n hx hb dX5_isWord_43 rfl (lv_at hl 1 rfl) ?_
            refine lv_bipush (v := 10) hx hb dX5_isWord_44 (by decide) ?_
            refine lv_idiv hx hb dX5_isWord_46 (by decide) ?_
            refine lv_istore_n (lv' := [(1, .int ((x1 / (10 : Int32)))), (3, .int ((x1 - x1 / (10 : Int32) * (10 : Int32)))), (2, .int x2)]) hx hb dX5_isWord_47 rfl hl (by decide) rfl (fun ls hl => ?_)
            refine lv_iinc (v := (x2 + (1 : Int32))) (lv' := [(2, .int ((x2 + (1 : Int32)))), (1, .int ((x1 / (10 : Int32)))), (3, .int ((x1 - x1 / (10 : Int32) * (10 : Int32))))]) hx hb dX5_isWord_48 hl (k := 2) rfl rfl (by decide) rfl (fun ls hl => ?_)
            refine lv_goto (tgt := 16) hx hb dX5_isWord_51 (by decide) ?_
            exact hk16 _ _ _ hf H locs ls (lv_sub hl [1, 0] rfl) hH
          · replace hf := ite_f c4 hf
            refine lv_iconst (v := 0) hx hb dX5_isWord_41 (by decide) ?_
            exact wk_zret S hr hlk hK hN hH rfl hf dX5_isWord_42
  have BL16 : ∀ (n : Nat) (x1 : Int32) (x2 : Int32) (h : Hp), f_X5_isWord_16 a0 n x1 x2 h = some (r0, h0) → BK p l e ({ frames := 0, cells := 0, slots := 0, locals := 0 }) s m args below meth c (MQ below (cQi X r0 h0) args s 0 0 (AD X)) X 4 16 [(1, .int x1), (2, .int x2)] [] h := by
    intro n
    induction n with
    | zero => intro x1 x2 h hf; cases hf
    | succ n ih => intro x1 x2 h hf; exact B16 _ ih _ _ _ hf
  intro H locs ls hl hH
  replace hl : lv_has ls 4 [(0, .int a0)] := hl
  unfold f_X5_isWord at hf
  refine lv_iload_n hx hb dX5_isWord_0 rfl (lv_at hl 0 rfl) ?_
  refine lv_if_lt (tgt := 10) hx hb dX5_isWord_1 (by decide) (fun c5 => ?_) (fun c5 => ?_)
  · replace hf := ite_t c5 hf
    refine lv_iconst (v := 0) hx hb dX5_isWord_10 (by decide) ?_
    exact wk_zret S hr hlk hK hN hH rfl hf dX5_isWord_11
  · replace hf := ite_f c5 hf
    refine lv_iload_n hx hb dX5_isWord_4 rfl (lv_at hl 0 rfl) ?_
    refine lv_ldc hx hb hown (hts _ (wU_in _ m_439)) dX5_isWord_5 ?_
    refine lv_icmp_le (tgt := 12) hx hb dX5_isWord_7 (by decide) (fun c6 => ?_) (fun c6 => ?_)
    · replace hf := ite_t c6 hf
      refine lv_iload_n hx hb dX5_isWord_12 rfl (lv_at hl 0 rfl) ?_
      refine lv_istore_n (lv' := [(1, .int a0), (0, .int a0)]) hx hb dX5_isWord_13 rfl hl (by decide) rfl (fun ls hl => ?_)
      refine lv_iconst (v := 0) hx hb dX5_isWord_14 (by decide) ?_
      refine lv_istore_n (lv' := [(2, .int ((0 : Int32))), (1, .int a0), (0, .int a0)]) hx hb dX5_isWord_15 rfl hl (by decide) rfl (fun ls hl => ?_)
      exact BL16 FU _ _ _ hf H locs ls (lv_sub hl [1, 0] rfl) hH
    · replace hf := ite_f c6 hf
      refine lv_iconst (v := 0) hx hb dX5_isWord_10 (by decide) ?_
      exact wk_zret S hr hlk hK hN hH rfl hf dX5_isWord_11
set_option maxHeartbeats 4000000 in
set_option maxRecDepth 100000 in
theorem C_X6_write (l : Launch) (X : Cx) (hI : Inj X) {a0 : Nat} (t0 : tY a0 = 5) (a1 : Int32) (h : Hp) (r0 : Int32) (h0 : Hp) (hf : f_X6_write a0 a1 h = some (r0, h0)) : Mi l X yX6_write cX6_write 2 (some .int) 1 21 h [.ref (X.2.2.2 a0), .int a1] r0 h0 := by
  refine BD_of (own := RX6) hI rfl (by decide) (Nat.le_of_ble_eq_true rfl) ?_
  intro p e s m args below meth c S hr hlk hK hN
  obtain ⟨hx, hb, hml, hown, hts⟩ := id S
  intro H locs ls hl hH
  replace hl : lv_has ls 2 [(0, .ref (X.2.2.2 a0)), (1, .int a1)] := hl
  unfold f_X6_write at hf
  refine lv_iload_n hx hb dX6_write_0 rfl (lv_at hl 1 rfl) ?_
  refine lv_if_lt (tgt := 11) hx hb dX6_write_1 (by decide) (fun c1 => ?_) (fun c1 => ?_)
  · replace hf := ite_t c1 hf
    refine lv_bipush (v := (-2)) hx hb dX6_write_11 (by decide) ?_
    exact wk_iret S hr hlk hK hN hH hf dX6_write_13
  · replace hf := ite_f c1 hf
    refine lv_iload_n hx hb dX6_write_4 rfl (lv_at hl 1 rfl) ?_
    refine lv_sipush (v := 255) hx hb dX6_write_5 (by decide) ?_
    refine lv_icmp_le (tgt := 14) hx hb dX6_write_8 (by decide) (fun c2 => ?_) (fun c2 => ?_)
    · replace hf := ite_t c2 hf
      refine lv_aload_n hx hb dX6_write_14 rfl (lv_at hl 0 rfl) ?_
      refine wk_getr (ci := 5) (k := 0) S hK hH j_X6 t0 rfl hq_5_0 (hts _ (wU_in _ m_216)) dX6_write_15 ?_
      refine lv_iload_n hx hb dX6_write_18 rfl (lv_at hl 1 rfl) ?_
      obtain ⟨r5, h4, hq3, hf⟩ := bnd_ok hf
      refine wk_callVi (ci := 3) (b := (rF a0 0)) (As := [.int a1]) (rest := []) S hK hN hH (tr_5_0 t0) (by decide) rfl (C_X3_append l X hI (tr_5_0 t0) a1 _ _ _ hq3) (cwV 1 hts (gV wU_in m_248 m_249 m_250 m_36 m_251) rfl rfl rfl hdV_X3_append ⟨Nat.le_of_ble_eq_true rfl, Nat.le_of_ble_eq_true rfl⟩) hl.1 rfl rfl (Nat.le_of_ble_eq_true rfl) dX6_write_19 ⟨Nat.zero_le _, Nat.zero_le _⟩ (fun H locs hH => ?_)
      refine lv_if_eq (tgt := 35) hx hb dX6_write_22 (by decide) (fun c6 => ?_) (fun c6 => ?_)
      · replace hf := ite_t c6 hf
        refine lv_bipush (v := (-4)) hx hb dX6_write_35 (by decide) ?_
        exact wk_iret S hr hlk hK hN hH hf dX6_write_37
      · replace hf := ite_f c6 hf
        refine lv_aload_n hx hb dX6_write_25 rfl (lv_at hl 0 rfl) ?_
        refine wk_getr (ci := 5) (k := 0) S hK hH j_X6 t0 rfl hq_5_0 (hts _ (wU_in _ m_216)) dX6_write_26 ?_
        refine wk_getiN (ci := 3) (k := 1) S hK hH j_X3 (tr_5_0 t0) rfl hq_3_1 (hN _ n_62) dX6_write_29 ?_
        refine lv_goto (tgt := 37) hx hb dX6_write_32 (by decide) ?_
        exact wk_iret S hr hlk hK hN hH hf dX6_write_37
    · replace hf := ite_f c2 hf
      refine lv_bipush (v := (-2)) hx hb dX6_write_11 (by decide) ?_
      exact wk_iret S hr hlk hK hN hH hf dX6_write_13
set_option maxHeartbeats 4000000 in
set_option maxRecDepth 100000 in
theorem C_X6_wipe (l : Launch) (X : Cx) (hI : Inj X) {a0 : Nat} (t0 : tY a0 = 5) (h : Hp) (r0 : Int32) (h0 : Hp) (hf : f_X6_wipe a0 h = some (r0, h0)) : Mi l X yX6_wipe cX6_wipe 2 (some .int) 0 0 h [.ref (X.2.2.2 a0)] r0 h0 := by
  refine BD_of (own := RX6) hI rfl (by decide) (Nat.le_of_ble_eq_true rfl) ?_
  intro p e s m args below meth c S hr hlk hK hN
  obtain ⟨hx, hb, hml, hown, hts⟩ := id S
  intro H locs ls hl hH
  replace hl : lv_has ls 2 [(0, .ref (X.2.2.2 a0))] := hl
  unfold f_X6_wipe at hf
  refine lv_aload_n hx hb dX6_wipe_0 rfl (lv_at hl 0 rfl) ?_
  refine wk_getr (ci := 5) (k := 0) S hK hH j_X6 t0 rfl hq_5_0 (hts _ (wU_in _ m_216)) dX6_wipe_1 ?_
  refine wk_getiN (ci := 3) (k := 1) S hK hH j_X3 (tr_5_0 t0) rfl hq_3_1 (hN _ n_62) dX6_wipe_4 ?_
  refine lv_istore_n (lv' := [(1, .int ((h.1 (rF a0 0) 1))), (0, .ref (X.2.2.2 a0))]) hx hb dX6_wipe_7 rfl hl (by decide) rfl (fun ls hl => ?_)
  refine lv_aload_n hx hb dX6_wipe_8 rfl (lv_at hl 1 rfl) ?_
  refine wk_getr (ci := 5) (k := 0) S hK hH j_X6 t0 rfl hq_5_0 (hts _ (wU_in _ m_216)) dX6_wipe_9 ?_
  refine lv_iconst (v := 0) hx hb dX6_wipe_12 (by decide) ?_
  refine wk_putiN (ci := 3) (k := 1) S hK hH j_X3 tyX3 tyX3_ok nmX3 (tr_5_0 t0) rfl hq_3_1 rfl hd_3_1 (hN _ n_62) dX6_wipe_13 (fun H locs hH => ?_)
  refine lv_iload_n hx hb dX6_wipe_16 rfl (lv_at hl 0 rfl) ?_
  exact wk_iret S hr hlk hK hN hH hf dX6_wipe_17
set_option maxHeartbeats 4000000 in
set_option maxRecDepth 100000 in
theorem C_X6_fault (l : Launch) (X : Cx) (hI : Inj X) {a0 : Nat} (t0 : tY a0 = 5) (a1 : Int32) (h : Hp) (r0 : Int32) (h0 : Hp) (hf : f_X6_fault a0 a1 h = some (r0, h0)) : Mi l X yX6_fault cX6_fault 2 (some .int) 5 110 h [.ref (X.2.2.2 a0), .int a1] r0 h0 := by
  refine BD_of (own := RX6) hI rfl (by decide) (Nat.le_of_ble_eq_true rfl) ?_
  intro p e s m args below meth c S hr hlk hK hN
  obtain ⟨hx, hb, hml, hown, hts⟩ := id S
  have B12 : ∀ (h : Hp), g_X6_fault_12 a0 a1 h = some (r0, h0) → BK p l e ({ frames := 5, cells := 0, slots := 0, locals := 110 }) s m args below meth c (MQ below (cQi X r0 h0) args s 0 0 (AD X)) X 2 12 [(0, .ref (X.2.2.2 a0)), (1, .int a1)] [] h := by
    intro h hf H locs ls hl hH
    unfold g_X6_fault_12 at hf
    refine lv_aload_n hx hb dX6_fault_12 rfl (lv_at hl 0 rfl) ?_
    refine wk_getr (ci := 5) (k := 0) S hK hH j_X6 t0 rfl hq_5_0 (hts _ (wU_in _ m_216)) dX6_fault_13 ?_
    obtain ⟨h2, hq1, hf⟩ := bind_ok hf
    refine wk_callVv (ci := 3) (b := (rF a0 0)) (As := []) (rest := []) S hK hN hH (tr_5_0 t0) (by decide) rfl (C_X3_read l X hI (tr_5_0 t0) _ _ hq1) (cwV 0 hts (gV wU_in m_260 m_261 m_262 m_36 m_263) rfl rfl rfl hdV_X3_read ⟨Nat.le_of_ble_eq_true rfl, Nat.le_of_ble_eq_true rfl⟩) hl.1 rfl rfl (Nat.le_of_ble_eq_true rfl) dX6_fault_16 ⟨Nat.zero_le _, Nat.zero_le _⟩ (fun H locs hH => ?_)
    refine lv_iload_n hx hb dX6_fault_19 rfl (lv_at hl 1 rfl) ?_
    refine lv_if_ne (tgt := 33) hx hb dX6_fault_20 (by decide) (fun c4 => ?_) (fun c4 => ?_)
    · replace hf := ite_f c4 hf
      refine lv_aload_n hx hb dX6_fault_33 rfl (lv_at hl 0 rfl) ?_
      refine wk_getr (ci := 5) (k := 0) S hK hH j_X6 t0 rfl hq_5_0 (hts _ (wU_in _ m_216)) dX6_fault_34 ?_
      refine wk_getiN (ci := 3) (k := 10) S hK hH j_X3 (tr_5_0 t0) rfl hq_3_10 (hN _ n_80) dX6_fault_37 ?_
      exact wk_iret S hr hlk hK hN hH hf dX6_fault_40
    · replace hf := ite_t c4 hf
      refine lv_aload_n hx hb dX6_fault_23 rfl (lv_at hl 0 rfl) ?_
      refine wk_getr (ci := 5) (k := 0) S hK hH j_X6 t0 rfl hq_5_0 (hts _ (wU_in _ m_216)) dX6_fault_24 ?_
      refine wk_getiN (ci := 3) (k := 9) S hK hH j_X3 (tr_5_0 t0) rfl hq_3_9 (hN _ n_78) dX6_fault_27 ?_
      refine lv_goto (tgt := 40) hx hb dX6_fault_30 (by decide) ?_
      exact wk_iret S hr hlk hK hN hH hf dX6_fault_40
  intro H locs ls hl hH
  replace hl : lv_has ls 2 [(0, .ref (X.2.2.2 a0)), (1, .int a1)] := hl
  unfold f_X6_fault at hf
  refine lv_iload_n hx hb dX6_fault_0 rfl (lv_at hl 1 rfl) ?_
  refine lv_if_eq (tgt := 12) hx hb dX6_fault_1 (by decide) (fun c5 => ?_) (fun c5 => ?_)
  · replace hf := ite_t c5 hf
    exact B12 _ hf H locs ls (lv_sub hl [0, 1] rfl) hH
  · replace hf := ite_f c5 hf
    refine lv_iload_n hx hb dX6_fault_4 rfl (lv_at hl 1 rfl) ?_
    refine lv_iconst (v := 1) hx hb dX6_fault_5 (by decide) ?_
    refine lv_icmp_eq (tgt := 12) hx hb dX6_fault_6 (by decide) (fun c6 => ?_) (fun c6 => ?_)
    · replace hf := ite_t c6 hf
      exact B12 _ hf H locs ls (lv_sub hl [0, 1] rfl) hH
    · replace hf := ite_f c6 hf
      refine lv_bipush (v := (-2)) hx hb dX6_fault_9 (by decide) ?_
      exact wk_iret S hr hlk hK hN hH hf dX6_fault_11
set_option maxHeartbeats 4000000 in
set_option maxRecDepth 100000 in
theorem C_X6_list (l : Launch) (X : Cx) (hI : Inj X) {a0 : Nat} (t0 : tY a0 = 5) (h : Hp) (r0 : Int32) (h0 : Hp) (hf : f_X6_list a0 h = some (r0, h0)) : Mi l X yX6_list cX6_list 2 (some .int) 5 110 h [.ref (X.2.2.2 a0)] r0 h0 := by
  refine BD_of (own := RX6) hI rfl (by decide) (Nat.le_of_ble_eq_true rfl) ?_
  intro p e s m args below meth c S hr hlk hK hN
  obtain ⟨hx, hb, hml, hown, hts⟩ := id S
  have B54 : ∀ (k54 : Int32 → Hp → Option (Int32 × Hp)) (hk54 : ∀ (x1 : Int32) (h : Hp), k54 x1 h = some (r0, h0) → BK p l e ({ frames := 5, cells := 0, slots := 0, locals := 110 }) s m args below meth c (MQ below (cQi X r0 h0) args s 0 0 (AD X)) X 2 54 [(0, .ref (X.2.2.2 a0)), (1, .int x1)] [] h) (x1 : Int32) (h : Hp), g_X6_list_54 a0 k54 x1 h = some (r0, h0) → BK p l e ({ frames := 5, cells := 0, slots := 0, locals := 110 }) s m args below meth c (MQ below (cQi X r0 h0) args s 0 0 (AD X)) X 2 54 [(0, .ref (X.2.2.2 a0)), (1, .int x1)] [] h := by
    intro k54 hk54 x1 h hf H locs ls hl hH
    unfold g_X6_list_54 at hf
    refine lv_iload_n hx hb dX6_list_54 rfl (lv_at hl 1 rfl) ?_
    refine lv_iconst (v := 2) hx hb dX6_list_55 (by decide) ?_
    refine lv_icmp_ge (tgt := 72) hx hb dX6_list_56 (by decide) (fun c1 => ?_) (fun c1 => ?_)
    · replace hf := ite_t c1 hf
      refine lv_aload_n hx hb dX6_list_72 rfl (lv_at hl 0 rfl) ?_
      refine wk_getr (ci := 5) (k := 0) S hK hH j_X6 t0 rfl hq_5_0 (hts _ (wU_in _ m_216)) dX6_list_73 ?_
      refine wk_getiN (ci := 3) (k := 8) S hK hH j_X3 (tr_5_0 t0) rfl hq_3_8 (hN _ n_76) dX6_list_76 ?_
      exact wk_iret S hr hlk hK hN hH hf dX6_list_79
    · replace hf := ite_f c1 hf
      refine lv_aload_n hx hb dX6_list_59 rfl (lv_at hl 0 rfl) ?_
      refine wk_getr (ci := 5) (k := 5) S hK hH j_X6 t0 rfl hq_5_5 (hts _ (wU_in _ m_221)) dX6_list_60 ?_
      refine lv_iload_n hx hb dX6_list_63 rfl (lv_at hl 1 rfl) ?_
      refine lv_iconst (v := 0) hx hb dX6_list_64 (by decide) ?_
      obtain ⟨o2, hf⟩ := ite_ok hf
      refine wk_zast S hK hH (tr_5_5 t0) o2 dX6_list_65 (fun H locs hH => ?_)
      refine lv_iinc (v := (x1 + (1 : Int32))) (lv' := [(1, .int ((x1 + (1 : Int32)))), (0, .ref (X.2.2.2 a0))]) hx hb dX6_list_66 hl (k := 1) rfl rfl (by decide) rfl (fun ls hl => ?_)
      refine lv_goto (tgt := 54) hx hb dX6_list_69 (by decide) ?_
      exact hk54 _ _ hf H locs ls (lv_sub hl [1, 0] rfl) hH
  have BL54 : ∀ (n : Nat) (x1 : Int32) (h : Hp), f_X6_list_54 a0 n x1 h = some (r0, h0) → BK p l e ({ frames := 5, cells := 0, slots := 0, locals := 110 }) s m args below meth c (MQ below (cQi X r0 h0) args s 0 0 (AD X)) X 2 54 [(0, .ref (X.2.2.2 a0)), (1, .int x1)] [] h := by
    intro n
    induction n with
    | zero => intro x1 h hf; cases hf
    | succ n ih => intro x1 h hf; exact B54 _ ih _ _ hf
  intro H locs ls hl hH
  replace hl : lv_has ls 2 [(0, .ref (X.2.2.2 a0))] := hl
  unfold f_X6_list at hf
  refine lv_aload_n hx hb dX6_list_0 rfl (lv_at hl 0 rfl) ?_
  refine wk_getr (ci := 5) (k := 0) S hK hH j_X6 t0 rfl hq_5_0 (hts _ (wU_in _ m_216)) dX6_list_1 ?_
  obtain ⟨h4, hq3, hf⟩ := bind_ok hf
  refine wk_callVv (ci := 3) (b := (rF a0 0)) (As := []) (rest := []) S hK hN hH (tr_5_0 t0) (by decide) rfl (C_X3_read l X hI (tr_5_0 t0) _ _ hq3) (cwV 0 hts (gV wU_in m_260 m_261 m_262 m_36 m_263) rfl rfl rfl hdV_X3_read ⟨Nat.le_of_ble_eq_true rfl, Nat.le_of_ble_eq_true rfl⟩) hl.1 rfl rfl (Nat.le_of_ble_eq_true rfl) dX6_list_4 ⟨Nat.zero_le _, Nat.zero_le _⟩ (fun H locs hH => ?_)
  refine lv_aload_n hx hb dX6_list_7 rfl (lv_at hl 0 rfl) ?_
  refine wk_getr (ci := 5) (k := 0) S hK hH j_X6 t0 rfl hq_5_0 (hts _ (wU_in _ m_216)) dX6_list_8 ?_
  refine wk_getiN (ci := 3) (k := 9) S hK hH j_X3 (tr_5_0 t0) rfl hq_3_9 (hN _ n_78) dX6_list_11 ?_
  refine lv_bipush (v := (-9)) hx hb dX6_list_14 (by decide) ?_
  refine lv_icmp_eq (tgt := 22) hx hb dX6_list_16 (by decide) (fun c6 => ?_) (fun c6 => ?_)
  · replace hf := ite_t c6 hf
    refine lv_aload_n hx hb dX6_list_22 rfl (lv_at hl 0 rfl) ?_
    refine wk_getr (ci := 5) (k := 1) S hK hH j_X6 t0 rfl hq_5_1 (hts _ (wU_in _ m_217)) dX6_list_23 ?_
    refine lv_aload_n hx hb dX6_list_26 rfl (lv_at hl 0 rfl) ?_
    refine wk_getr (ci := 5) (k := 0) S hK hH j_X6 t0 rfl hq_5_0 (hts _ (wU_in _ m_216)) dX6_list_27 ?_
    obtain ⟨h8, hq7, hf⟩ := bind_ok hf
    refine wk_callVv (ci := 2) (b := (rF a0 1)) (As := [.ref (X.2.2.2 (rF a0 0))]) (rest := []) S hK hN hH (tr_5_1 t0) (by decide) rfl (C_X2_takeFrom l X hI (tr_5_1 t0) (tr_5_0 t0) _ _ hq7) (cwV 1 hts (gV wU_in m_305 m_306 m_307 m_37 m_308) rfl rfl rfl hdV_X2_takeFrom ⟨Nat.le_of_ble_eq_true rfl, Nat.le_of_ble_eq_true rfl⟩) hl.1 rfl rfl (Nat.le_of_ble_eq_true rfl) dX6_list_30 ⟨Nat.zero_le _, Nat.zero_le _⟩ (fun H locs hH => ?_)
    refine lv_aload_n hx hb dX6_list_33 rfl (lv_at hl 0 rfl) ?_
    refine wk_getr (ci := 5) (k := 2) S hK hH j_X6 t0 rfl hq_5_2 (hts _ (wU_in _ m_218)) dX6_list_34 ?_
    refine lv_aload_n hx hb dX6_list_37 rfl (lv_at hl 0 rfl) ?_
    refine wk_getr (ci := 5) (k := 0) S hK hH j_X6 t0 rfl hq_5_0 (hts _ (wU_in _ m_216)) dX6_list_38 ?_
    obtain ⟨h11, hq10, hf⟩ := bind_ok hf
    refine wk_callVv (ci := 4) (b := (rF a0 2)) (As := [.ref (X.2.2.2 (rF a0 0))]) (rest := []) S hK hN hH (tr_5_2 t0) (by decide) rfl (C_X4_beginWith l X hI (tr_5_2 t0) (tr_5_0 t0) _ _ hq10) (cwV 1 hts (gV wU_in m_312 m_313 m_314 m_38 m_315) rfl rfl rfl hdV_X4_beginWith ⟨Nat.le_of_ble_eq_true rfl, Nat.le_of_ble_eq_true rfl⟩) hl.1 rfl rfl (Nat.le_of_ble_eq_true rfl) dX6_list_41 ⟨Nat.zero_le _, Nat.zero_le _⟩ (fun H locs hH => ?_)
    refine lv_aload_n hx hb dX6_list_44 rfl (lv_at hl 0 rfl) ?_
    refine wk_getr (ci := 5) (k := 6) S hK hH j_X6 t0 rfl hq_5_6 (hts _ (wU_in _ m_222)) dX6_list_45 ?_
    refine lv_iconst (v := 0) hx hb dX6_list_48 (by decide) ?_
    refine wk_putiN (ci := 0) (k := 5) S hK hH j_X0 tyX0 tyX0_ok nmX0 (tr_5_6 t0) rfl hq_0_5 rfl hd_0_5 (hN _ n_178) dX6_list_49 (fun H locs hH => ?_)
    refine lv_iconst (v := 0) hx hb dX6_list_52 (by decide) ?_
    refine lv_istore_n (lv' := [(1, .int ((0 : Int32))), (0, .ref (X.2.2.2 a0))]) hx hb dX6_list_53 rfl hl (by decide) rfl (fun ls hl => ?_)
    exact BL54 FU _ _ hf H locs ls (lv_sub hl [1, 0] rfl) hH
  · replace hf := ite_f c6 hf
    refine lv_bipush (v := (-3)) hx hb dX6_list_19 (by decide) ?_
    exact wk_iret S hr hlk hK hN hH hf dX6_list_21
set_option maxHeartbeats 4000000 in
set_option maxRecDepth 100000 in
theorem C_X6_about (l : Launch) (X : Cx) (hI : Inj X) {a0 : Nat} (t0 : tY a0 = 5) (a1 : Int32) (h : Hp) (r0 : Int32) (h0 : Hp) (hf : f_X6_about a0 a1 h = some (r0, h0)) : Mi l X yX6_about cX6_about 2 (some .int) 5 123 h [.ref (X.2.2.2 a0), .int a1] r0 h0 := by
  refine BD_of (own := RX6) hI rfl (by decide) (Nat.le_of_ble_eq_true rfl) ?_
  intro p e s m args below meth c S hr hlk hK hN
  obtain ⟨hx, hb, hml, hown, hts⟩ := id S
  intro H locs ls hl hH
  replace hl : lv_has ls 2 [(0, .ref (X.2.2.2 a0)), (1, .int a1)] := hl
  unfold f_X6_about at hf
  refine lv_iload_n hx hb dX6_about_0 rfl (lv_at hl 1 rfl) ?_
  by_cases c1 : a1 = 0
  · replace hf := ite_t c1 hf
    refine lv_tableIn (off := 55) (tgt := 56) hx hb dX6_about_1 (by rw [c1]; decide) (by rw [c1]; decide) (by rw [c1]; decide) (by decide) ?_
    refine lv_aload_n hx hb dX6_about_56 rfl (lv_at hl 0 rfl) ?_
    refine wk_getr (ci := 5) (k := 1) S hK hH j_X6 t0 rfl hq_5_1 (hts _ (wU_in _ m_217)) dX6_about_57 ?_
    refine wk_getiN (ci := 2) (k := 2) S hK hH j_X2 (tr_5_1 t0) rfl hq_2_2 (hN _ n_123) dX6_about_60 ?_
    exact wk_iret S hr hlk hK hN hH hf dX6_about_63
  replace hf := ite_f c1 hf
  by_cases c2 : a1 = 1
  · replace hf := ite_t c2 hf
    refine lv_tableIn (off := 63) (tgt := 64) hx hb dX6_about_1 (by rw [c2]; decide) (by rw [c2]; decide) (by rw [c2]; decide) (by decide) ?_
    refine lv_aload_n hx hb dX6_about_64 rfl (lv_at hl 0 rfl) ?_
    refine wk_getr (ci := 5) (k := 1) S hK hH j_X6 t0 rfl hq_5_1 (hts _ (wU_in _ m_217)) dX6_about_65 ?_
    refine wk_getiN (ci := 2) (k := 3) S hK hH j_X2 (tr_5_1 t0) rfl hq_2_3 (hN _ n_126) dX6_about_68 ?_
    exact wk_iret S hr hlk hK hN hH hf dX6_about_71
  replace hf := ite_f c2 hf
  by_cases c3 : a1 = 2
  · replace hf := ite_t c3 hf
    refine lv_tableIn (off := 71) (tgt := 72) hx hb dX6_about_1 (by rw [c3]; decide) (by rw [c3]; decide) (by rw [c3]; decide) (by decide) ?_
    refine lv_aload_n hx hb dX6_about_72 rfl (lv_at hl 0 rfl) ?_
    refine wk_getr (ci := 5) (k := 2) S hK hH j_X6 t0 rfl hq_5_2 (hts _ (wU_in _ m_218)) dX6_about_73 ?_
    refine wk_getiN (ci := 4) (k := 5) S hK hH j_X4 (tr_5_2 t0) rfl hq_4_5 (hN _ n_151) dX6_about_76 ?_
    exact wk_iret S hr hlk hK hN hH hf dX6_about_79
  replace hf := ite_f c3 hf
  by_cases c4 : a1 = 3
  · replace hf := ite_t c4 hf
    refine lv_tableIn (off := 79) (tgt := 80) hx hb dX6_about_1 (by rw [c4]; decide) (by rw [c4]; decide) (by rw [c4]; decide) (by decide) ?_
    refine lv_aload_n hx hb dX6_about_80 rfl (lv_at hl 0 rfl) ?_
    refine wk_getr (ci := 5) (k := 2) S hK hH j_X6 t0 rfl hq_5_2 (hts _ (wU_in _ m_218)) dX6_about_81 ?_
    refine lv_aload_n hx hb dX6_about_84 rfl (lv_at hl 0 rfl) ?_
    refine wk_getr (ci := 5) (k := 2) S hK hH j_X6 t0 rfl hq_5_2 (hts _ (wU_in _ m_218)) dX6_about_85 ?_
    obtain ⟨r7, h6, hq5, hf⟩ := bnd_ok hf
    refine wk_callVi (ci := 4) (b := (rF a0 2)) (As := []) (rest := [.ref (X.2.2.2 (rF a0 2))]) S hK hN hH (tr_5_2 t0) (by decide) rfl (C_X4_allChanges l X hI (tr_5_2 t0) _ _ _ hq5) (cwV 0 hts (gV wU_in m_325 m_326 m_327 m_38 m_328) rfl rfl rfl hdV_X4_allChanges ⟨Nat.le_of_ble_eq_true rfl, Nat.le_of_ble_eq_true rfl⟩) hl.1 rfl rfl (Nat.le_of_ble_eq_true rfl) dX6_about_88 ⟨Nat.zero_le _, Nat.zero_le _⟩ (fun H locs hH => ?_)
    obtain ⟨r10, h9, hq8, hf⟩ := bnd_ok hf
    refine wk_callVi (ci := 4) (b := (rF a0 2)) (As := [.int r7]) (rest := []) S hK hN hH (tr_5_2 t0) (by decide) rfl (C_X4_unlikeWords l X hI (tr_5_2 t0) r7 _ _ _ hq8) (cwV 1 hts (gV wU_in m_329 m_330 m_331 m_38 m_332) rfl rfl rfl hdV_X4_unlikeWords ⟨Nat.le_of_ble_eq_true rfl, Nat.le_of_ble_eq_true rfl⟩) hl.1 rfl rfl (Nat.le_of_ble_eq_true rfl) dX6_about_91 ⟨Nat.zero_le _, Nat.zero_le _⟩ (fun H locs hH => ?_)
    exact wk_iret S hr hlk hK hN hH hf dX6_about_94
  replace hf := ite_f c4 hf
  by_cases c11 : a1 = 4
  · replace hf := ite_t c11 hf
    refine lv_tableIn (off := 94) (tgt := 95) hx hb dX6_about_1 (by rw [c11]; decide) (by rw [c11]; decide) (by rw [c11]; decide) (by decide) ?_
    refine lv_aload_n hx hb dX6_about_95 rfl (lv_at hl 0 rfl) ?_
    refine wk_getr (ci := 5) (k := 2) S hK hH j_X6 t0 rfl hq_5_2 (hts _ (wU_in _ m_218)) dX6_about_96 ?_
    obtain ⟨r14, h13, hq12, hf⟩ := bnd_ok hf
    refine wk_callVi (ci := 4) (b := (rF a0 2)) (As := []) (rest := []) S hK hN hH (tr_5_2 t0) (by decide) rfl (C_X4_activeChanges l X hI (tr_5_2 t0) _ _ _ hq12) (cwV 0 hts (gV wU_in m_359 m_360 m_361 m_38 m_362) rfl rfl rfl hdV_X4_activeChanges ⟨Nat.le_of_ble_eq_true rfl, Nat.le_of_ble_eq_true rfl⟩) hl.1 rfl rfl (Nat.le_of_ble_eq_true rfl) dX6_about_99 ⟨Nat.zero_le _, Nat.zero_le _⟩ (fun H locs hH => ?_)
    exact wk_iret S hr hlk hK hN hH hf dX6_about_102
  replace hf := ite_f c11 hf
  by_cases c15 : a1 = 5
  · replace hf := ite_t c15 hf
    refine lv_tableIn (off := 102) (tgt := 103) hx hb dX6_about_1 (by rw [c15]; decide) (by rw [c15]; decide) (by rw [c15]; decide) (by decide) ?_
    refine lv_aload_n hx hb dX6_about_103 rfl (lv_at hl 0 rfl) ?_
    refine wk_getr (ci := 5) (k := 2) S hK hH j_X6 t0 rfl hq_5_2 (hts _ (wU_in _ m_218)) dX6_about_104 ?_
    obtain ⟨r18, h17, hq16, hf⟩ := bnd_ok hf
    refine wk_callVi (ci := 4) (b := (rF a0 2)) (As := []) (rest := []) S hK hN hH (tr_5_2 t0) (by decide) rfl (C_X4_exceptions l X hI (tr_5_2 t0) _ _ _ hq16) (cwV 0 hts (gV wU_in m_367 m_368 m_369 m_38 m_370) rfl rfl rfl hdV_X4_exceptions ⟨Nat.le_of_ble_eq_true rfl, Nat.le_of_ble_eq_true rfl⟩) hl.1 rfl rfl (Nat.le_of_ble_eq_true rfl) dX6_about_107 ⟨Nat.zero_le _, Nat.zero_le _⟩ (fun H locs hH => ?_)
    exact wk_iret S hr hlk hK hN hH hf dX6_about_110
  replace hf := ite_f c15 hf
  by_cases c19 : a1 = 6
  · replace hf := ite_t c19 hf
    refine lv_tableIn (off := 110) (tgt := 111) hx hb dX6_about_1 (by rw [c19]; decide) (by rw [c19]; decide) (by rw [c19]; decide) (by decide) ?_
    refine lv_aload_n hx hb dX6_about_111 rfl (lv_at hl 0 rfl) ?_
    refine wk_getr (ci := 5) (k := 2) S hK hH j_X6 t0 rfl hq_5_2 (hts _ (wU_in _ m_218)) dX6_about_112 ?_
    obtain ⟨r22, h21, hq20, hf⟩ := bnd_ok hf
    refine wk_callVi (ci := 4) (b := (rF a0 2)) (As := []) (rest := []) S hK hN hH (tr_5_2 t0) (by decide) rfl (C_X4_formCount l X hI (tr_5_2 t0) _ _ _ hq20) (cwV 0 hts (gV wU_in m_383 m_384 m_385 m_38 m_386) rfl rfl rfl hdV_X4_formCount ⟨Nat.le_of_ble_eq_true rfl, Nat.le_of_ble_eq_true rfl⟩) hl.1 rfl rfl (Nat.le_of_ble_eq_true rfl) dX6_about_115 ⟨Nat.zero_le _, Nat.zero_le _⟩ (fun H locs hH => ?_)
    exact wk_iret S hr hlk hK hN hH hf dX6_about_118
  replace hf := ite_f c19 hf
  by_cases c23 : a1 = 7
  · replace hf := ite_t c23 hf
    refine lv_tableIn (off := 118) (tgt := 119) hx hb dX6_about_1 (by rw [c23]; decide) (by rw [c23]; decide) (by rw [c23]; decide) (by decide) ?_
    refine lv_aload_n hx hb dX6_about_119 rfl (lv_at hl 0 rfl) ?_
    refine wk_getr (ci := 5) (k := 6) S hK hH j_X6 t0 rfl hq_5_6 (hts _ (wU_in _ m_222)) dX6_about_120 ?_
    refine wk_getiN (ci := 0) (k := 5) S hK hH j_X0 (tr_5_6 t0) rfl hq_0_5 (hN _ n_178) dX6_about_123 ?_
    exact wk_iret S hr hlk hK hN hH hf dX6_about_126
  replace hf := ite_f c23 hf
  by_cases c24 : a1 = 8
  · replace hf := ite_t c24 hf
    refine lv_tableIn (off := 126) (tgt := 127) hx hb dX6_about_1 (by rw [c24]; decide) (by rw [c24]; decide) (by rw [c24]; decide) (by decide) ?_
    refine lv_aload_n hx hb dX6_about_127 rfl (lv_at hl 0 rfl) ?_
    refine wk_getr (ci := 5) (k := 7) S hK hH j_X6 t0 rfl hq_5_7 (hts _ (wU_in _ m_223)) dX6_about_128 ?_
    refine wk_getiN (ci := 1) (k := 4) S hK hH j_X1 (tr_5_7 t0) rfl hq_1_4 (hN _ n_204) dX6_about_131 ?_
    exact wk_iret S hr hlk hK hN hH hf dX6_about_134
  replace hf := ite_f c24 hf
  by_cases c25 : a1 = 9
  · replace hf := ite_t c25 hf
    refine lv_tableIn (off := 134) (tgt := 135) hx hb dX6_about_1 (by rw [c25]; decide) (by rw [c25]; decide) (by rw [c25]; decide) (by decide) ?_
    refine lv_aload_n hx hb dX6_about_135 rfl (lv_at hl 0 rfl) ?_
    refine wk_getr (ci := 5) (k := 0) S hK hH j_X6 t0 rfl hq_5_0 (hts _ (wU_in _ m_216)) dX6_about_136 ?_
    refine wk_getiN (ci := 3) (k := 1) S hK hH j_X3 (tr_5_0 t0) rfl hq_3_1 (hN _ n_62) dX6_about_139 ?_
    exact wk_iret S hr hlk hK hN hH hf dX6_about_142
  replace hf := ite_f c25 hf
  have ec1 := lv_neT (a := 0) c1 (by decide)
  have ec2 := lv_neT (a := 1) c2 (by decide)
  have ec3 := lv_neT (a := 2) c3 (by decide)
  have ec4 := lv_neT (a := 3) c4 (by decide)
  have ec11 := lv_neT (a := 4) c11 (by decide)
  have ec15 := lv_neT (a := 5) c15 (by decide)
  have ec19 := lv_neT (a := 6) c19 (by decide)
  have ec23 := lv_neT (a := 7) c23 (by decide)
  have ec24 := lv_neT (a := 8) c24 (by decide)
  have ec25 := lv_neT (a := 9) c25 (by decide)
  refine lv_tableOut (tgt := 143) hx hb dX6_about_1 (by omega) (by decide) ?_
  refine lv_bipush (v := (-2)) hx hb dX6_about_143 (by decide) ?_
  exact wk_iret S hr hlk hK hN hH hf dX6_about_145
set_option maxHeartbeats 4000000 in
set_option maxRecDepth 100000 in
theorem C_X6_part (l : Launch) (X : Cx) (hI : Inj X) {a0 : Nat} (t0 : tY a0 = 5) (a1 : Int32) (a2 : Int32) (h : Hp) (r0 : Int32) (h0 : Hp) (hf : f_X6_part a0 a1 a2 h = some (r0, h0)) : Mi l X yX6_part cX6_part 3 (some .int) 1 21 h [.ref (X.2.2.2 a0), .int a1, .int a2] r0 h0 := by
  refine BD_of (own := RX6) hI rfl (by decide) (Nat.le_of_ble_eq_true rfl) ?_
  intro p e s m args below meth c S hr hlk hK hN
  obtain ⟨hx, hb, hml, hown, hts⟩ := id S
  have B12 : ∀ (h : Hp), g_X6_part_12 a0 a1 a2 h = some (r0, h0) → BK p l e ({ frames := 1, cells := 0, slots := 0, locals := 21 }) s m args below meth c (MQ below (cQi X r0 h0) args s 0 0 (AD X)) X 3 12 [(0, .ref (X.2.2.2 a0)), (1, .int a1), (2, .int a2)] [] h := by
    intro h hf H locs ls hl hH
    unfold g_X6_part_12 at hf
    refine lv_iload_n hx hb dX6_part_12 rfl (lv_at hl 1 rfl) ?_
    refine lv_if_ne (tgt := 41) hx hb dX6_part_13 (by decide) (fun c1 => ?_) (fun c1 => ?_)
    · replace hf := ite_f c1 hf
      refine lv_aload_n hx hb dX6_part_41 rfl (lv_at hl 0 rfl) ?_
      refine wk_getr (ci := 5) (k := 1) S hK hH j_X6 t0 rfl hq_5_1 (hts _ (wU_in _ m_217)) dX6_part_42 ?_
      refine lv_iload_n hx hb dX6_part_45 rfl (lv_at hl 2 rfl) ?_
      obtain ⟨r4, h3, hq2, hf⟩ := bnd_ok hf
      refine wk_callVi (ci := 2) (b := (rF a0 1)) (As := [.int a2]) (rest := []) S hK hN hH (tr_5_1 t0) (by decide) rfl (C_X2_hasEnding l X hI (tr_5_1 t0) a2 _ _ _ hq2) (cwV 1 hts (gV wU_in m_395 m_396 m_397 m_37 m_398) rfl rfl rfl hdV_X2_hasEnding ⟨Nat.le_of_ble_eq_true rfl, Nat.le_of_ble_eq_true rfl⟩) hl.1 rfl rfl (Nat.le_of_ble_eq_true rfl) dX6_part_46 ⟨Nat.zero_le _, Nat.zero_le _⟩ (fun H locs hH => ?_)
      refine lv_if_eq (tgt := 64) hx hb dX6_part_49 (by decide) (fun c5 => ?_) (fun c5 => ?_)
      · replace hf := ite_t c5 hf
        refine lv_iconst (v := (-1)) hx hb dX6_part_64 (by decide) ?_
        exact wk_iret S hr hlk hK hN hH hf dX6_part_65
      · replace hf := ite_f c5 hf
        refine lv_aload_n hx hb dX6_part_52 rfl (lv_at hl 0 rfl) ?_
        refine wk_getr (ci := 5) (k := 1) S hK hH j_X6 t0 rfl hq_5_1 (hts _ (wU_in _ m_217)) dX6_part_53 ?_
        refine wk_getrN (ci := 2) (k := 1) S hK hH j_X2 (tr_5_1 t0) rfl hq_2_1 (hN _ n_121) dX6_part_56 ?_
        refine lv_iload_n hx hb dX6_part_59 rfl (lv_at hl 2 rfl) ?_
        obtain ⟨o6, hf⟩ := ite_ok hf
        refine wk_iald S hK hH (tr_2_1 (tr_5_1 t0)) o6 dX6_part_60 ?_
        refine lv_goto (tgt := 65) hx hb dX6_part_61 (by decide) ?_
        exact wk_iret S hr hlk hK hN hH hf dX6_part_65
    · replace hf := ite_t c1 hf
      refine lv_aload_n hx hb dX6_part_16 rfl (lv_at hl 0 rfl) ?_
      refine wk_getr (ci := 5) (k := 1) S hK hH j_X6 t0 rfl hq_5_1 (hts _ (wU_in _ m_217)) dX6_part_17 ?_
      refine lv_iload_n hx hb dX6_part_20 rfl (lv_at hl 2 rfl) ?_
      obtain ⟨r9, h8, hq7, hf⟩ := bnd_ok hf
      refine wk_callVi (ci := 2) (b := (rF a0 1)) (As := [.int a2]) (rest := []) S hK hN hH (tr_5_1 t0) (by decide) rfl (C_X2_hasRoot l X hI (tr_5_1 t0) a2 _ _ _ hq7) (cwV 1 hts (gV wU_in m_391 m_392 m_393 m_37 m_394) rfl rfl rfl hdV_X2_hasRoot ⟨Nat.le_of_ble_eq_true rfl, Nat.le_of_ble_eq_true rfl⟩) hl.1 rfl rfl (Nat.le_of_ble_eq_true rfl) dX6_part_21 ⟨Nat.zero_le _, Nat.zero_le _⟩ (fun H locs hH => ?_)
      refine lv_if_eq (tgt := 39) hx hb dX6_part_24 (by decide) (fun c10 => ?_) (fun c10 => ?_)
      · replace hf := ite_t c10 hf
        refine lv_iconst (v := (-1)) hx hb dX6_part_39 (by decide) ?_
        exact wk_iret S hr hlk hK hN hH hf dX6_part_40
      · replace hf := ite_f c10 hf
        refine lv_aload_n hx hb dX6_part_27 rfl (lv_at hl 0 rfl) ?_
        refine wk_getr (ci := 5) (k := 1) S hK hH j_X6 t0 rfl hq_5_1 (hts _ (wU_in _ m_217)) dX6_part_28 ?_
        refine wk_getrN (ci := 2) (k := 0) S hK hH j_X2 (tr_5_1 t0) rfl hq_2_0 (hN _ n_118) dX6_part_31 ?_
        refine lv_iload_n hx hb dX6_part_34 rfl (lv_at hl 2 rfl) ?_
        obtain ⟨o11, hf⟩ := ite_ok hf
        refine wk_iald S hK hH (tr_2_0 (tr_5_1 t0)) o11 dX6_part_35 ?_
        refine lv_goto (tgt := 40) hx hb dX6_part_36 (by decide) ?_
        exact wk_iret S hr hlk hK hN hH hf dX6_part_40
  intro H locs ls hl hH
  replace hl : lv_has ls 3 [(0, .ref (X.2.2.2 a0)), (1, .int a1), (2, .int a2)] := hl
  unfold f_X6_part at hf
  refine lv_iload_n hx hb dX6_part_0 rfl (lv_at hl 1 rfl) ?_
  refine lv_if_eq (tgt := 12) hx hb dX6_part_1 (by decide) (fun c12 => ?_) (fun c12 => ?_)
  · replace hf := ite_t c12 hf
    exact B12 _ hf H locs ls (lv_sub hl [0, 1, 2] rfl) hH
  · replace hf := ite_f c12 hf
    refine lv_iload_n hx hb dX6_part_4 rfl (lv_at hl 1 rfl) ?_
    refine lv_iconst (v := 1) hx hb dX6_part_5 (by decide) ?_
    refine lv_icmp_eq (tgt := 12) hx hb dX6_part_6 (by decide) (fun c13 => ?_) (fun c13 => ?_)
    · replace hf := ite_t c13 hf
      exact B12 _ hf H locs ls (lv_sub hl [0, 1, 2] rfl) hH
    · replace hf := ite_f c13 hf
      refine lv_bipush (v := (-2)) hx hb dX6_part_9 (by decide) ?_
      exact wk_iret S hr hlk hK hN hH hf dX6_part_11
set_option maxHeartbeats 4000000 in
set_option maxRecDepth 100000 in
theorem C_X6_isSignPlace (l : Launch) (X : Cx) (hI : Inj X) (a0 : Int32) (h : Hp) (r0 : Int32) (h0 : Hp) (hf : f_X6_isSignPlace a0 h = some (r0, h0)) : Mi l X yX6_isSignPlace cX6_isSignPlace 1 (some .boolean) 0 0 h [.int a0] r0 h0 := by
  refine BD_of (own := RX6) hI rfl (by decide) (Nat.le_of_ble_eq_true rfl) ?_
  intro p e s m args below meth c S hr hlk hK hN
  obtain ⟨hx, hb, hml, hown, hts⟩ := id S
  intro H locs ls hl hH
  replace hl : lv_has ls 1 [(0, .int a0)] := hl
  unfold f_X6_isSignPlace at hf
  refine lv_iload_n hx hb dX6_isSignPlace_0 rfl (lv_at hl 0 rfl) ?_
  refine lv_if_lt (tgt := 13) hx hb dX6_isSignPlace_1 (by decide) (fun c1 => ?_) (fun c1 => ?_)
  · replace hf := ite_t c1 hf
    refine lv_iconst (v := 0) hx hb dX6_isSignPlace_13 (by decide) ?_
    exact wk_zret S hr hlk hK hN hH rfl hf dX6_isSignPlace_14
  · replace hf := ite_f c1 hf
    refine lv_iload_n hx hb dX6_isSignPlace_4 rfl (lv_at hl 0 rfl) ?_
    refine lv_iconst (v := 4) hx hb dX6_isSignPlace_5 (by decide) ?_
    refine lv_icmp_ge (tgt := 13) hx hb dX6_isSignPlace_6 (by decide) (fun c2 => ?_) (fun c2 => ?_)
    · replace hf := ite_t c2 hf
      refine lv_iconst (v := 0) hx hb dX6_isSignPlace_13 (by decide) ?_
      exact wk_zret S hr hlk hK hN hH rfl hf dX6_isSignPlace_14
    · replace hf := ite_f c2 hf
      refine lv_iconst (v := 1) hx hb dX6_isSignPlace_9 (by decide) ?_
      refine lv_goto (tgt := 14) hx hb dX6_isSignPlace_10 (by decide) ?_
      exact wk_zret S hr hlk hK hN hH rfl hf dX6_isSignPlace_14
