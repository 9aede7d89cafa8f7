set_option maxHeartbeats 4000000 in
set_option maxRecDepth 100000 in
theorem C_X0_add (l : Launch) (X : Cx) (hI : Inj X) {a0 : Nat} (t0 : tY a0 = 0) (a1 : Int32) (a2 : Int32) (a3 : Int32) (a4 : Int32) (h : Hp) (h0 : Hp) (hf : f_X0_add a0 a1 a2 a3 a4 h = some h0) : Mv l X yX0_add cX0_add 6 none 0 0 h [.ref (X.2.2.2 a0), .int a1, .int a2, .int a3, .int a4] h0 := by
  refine BD_of (own := RX0) hI rfl (by decide) (Nat.le_of_ble_eq_true rfl) ?_
  intro p e s m args below meth c S hr hlk hK hN
  obtain ⟨hx, hb, hml, hown, hts⟩ := id S
  have B32 : ∀ (h : Hp), g_X0_add_32 a0 a1 a2 a3 a4 h = some h0 → BK p l e ({ frames := 0, cells := 0, slots := 0, locals := 0 }) s m args below meth c (MQ below (cQv X h0) args s 0 0 (AD X)) X 6 32 [(0, .ref (X.2.2.2 a0)), (1, .int a1), (2, .int a2), (3, .int a3), (4, .int a4)] [] h := by
    intro h hf H locs ls hl hH
    unfold g_X0_add_32 at hf
    refine lv_aload_n hx hb dX0_add_32 rfl (lv_at hl 0 rfl) ?_
    refine wk_geti (ci := 0) (k := 4) S hK hH j_X0 t0 rfl hq_0_4 (hts _ (wU_in _ m_176)) dX0_add_33 ?_
    refine lv_aload_n hx hb dX0_add_36 rfl (lv_at hl 0 rfl) ?_
    refine wk_geti (ci := 0) (k := 5) S hK hH j_X0 t0 rfl hq_0_5 (hts _ (wU_in _ m_177)) dX0_add_37 ?_
    refine lv_iadd hx hb dX0_add_40 ?_
    refine lv_bipush (v := 14) hx hb dX0_add_41 (by decide) ?_
    refine lv_irem hx hb dX0_add_43 (by decide) ?_
    refine lv_istore (lv' := [(5, .int ((((h.1 a0 4) + (h.1 a0 5)) - ((h.1 a0 4) + (h.1 a0 5)) / (14 : Int32) * (14 : Int32)))), (0, .ref (X.2.2.2 a0)), (1, .int a1), (2, .int a2), (3, .int a3), (4, .int a4)]) hx hb dX0_add_44 hl (by decide) rfl (fun ls hl => ?_)
    refine lv_aload_n hx hb dX0_add_46 rfl (lv_at hl 1 rfl) ?_
    refine wk_getr (ci := 0) (k := 0) S hK hH j_X0 t0 rfl hq_0_0 (hts _ (wU_in _ m_172)) dX0_add_47 ?_
    refine lv_iload hx hb dX0_add_50 (lv_at hl 0 rfl) ?_
    refine lv_iload_n hx hb dX0_add_52 rfl (lv_at hl 2 rfl) ?_
    obtain ⟨o1, hf⟩ := ite_ok hf
    refine wk_iast S hK hH (tr_0_0 t0) o1 dX0_add_53 (fun H locs hH => ?_)
    refine lv_aload_n hx hb dX0_add_54 rfl (lv_at hl 1 rfl) ?_
    refine wk_getr (ci := 0) (k := 1) S hK hH j_X0 t0 rfl hq_0_1 (hts _ (wU_in _ m_173)) dX0_add_55 ?_
    refine lv_iload hx hb dX0_add_58 (lv_at hl 0 rfl) ?_
    refine lv_iload_n hx hb dX0_add_60 rfl (lv_at hl 3 rfl) ?_
    obtain ⟨o2, hf⟩ := ite_ok hf
    refine wk_iast S hK hH (tr_0_1 t0) o2 dX0_add_61 (fun H locs hH => ?_)
    refine lv_aload_n hx hb dX0_add_62 rfl (lv_at hl 1 rfl) ?_
    refine wk_getr (ci := 0) (k := 2) S hK hH j_X0 t0 rfl hq_0_2 (hts _ (wU_in _ m_174)) dX0_add_63 ?_
    refine lv_iload hx hb dX0_add_66 (lv_at hl 0 rfl) ?_
    refine lv_iload_n hx hb dX0_add_68 rfl (lv_at hl 4 rfl) ?_
    obtain ⟨o3, hf⟩ := ite_ok hf
    refine wk_iast S hK hH (tr_0_2 t0) o3 dX0_add_69 (fun H locs hH => ?_)
    refine lv_aload_n hx hb dX0_add_70 rfl (lv_at hl 1 rfl) ?_
    refine wk_getr (ci := 0) (k := 3) S hK hH j_X0 t0 rfl hq_0_3 (hts _ (wU_in _ m_175)) dX0_add_71 ?_
    refine lv_iload hx hb dX0_add_74 (lv_at hl 0 rfl) ?_
    refine lv_iload hx hb dX0_add_76 (lv_at hl 5 rfl) ?_
    obtain ⟨o4, hf⟩ := ite_ok hf
    refine wk_iast S hK hH (tr_0_3 t0) o4 dX0_add_78 (fun H locs hH => ?_)
    refine lv_aload_n hx hb dX0_add_79 rfl (lv_at hl 1 rfl) ?_
    refine lv_dup hx hb dX0_add_80 rfl ?_
    refine wk_geti (ci := 0) (k := 5) S hK hH j_X0 t0 rfl hq_0_5 (hts _ (wU_in _ m_177)) dX0_add_81 ?_
    refine lv_iconst (v := 1) hx hb dX0_add_84 (by decide) ?_
    refine lv_iadd hx hb dX0_add_85 ?_
    refine wk_puti (ci := 0) (k := 5) S hK hH j_X0 tyX0 tyX0_ok nmX0 t0 rfl hq_0_5 rfl hd_0_5 (hts _ (wU_in _ m_177)) dX0_add_86 (fun H locs hH => ?_)
    exact wk_vret S hr hlk hK hN hH hf dX0_add_89
  intro H locs ls hl hH
  replace hl : lv_has ls 6 [(0, .ref (X.2.2.2 a0)), (1, .int a1), (2, .int a2), (3, .int a3), (4, .int a4)] := hl
  unfold f_X0_add at hf
  refine lv_aload_n hx hb dX0_add_0 rfl (lv_at hl 0 rfl) ?_
  refine wk_geti (ci := 0) (k := 5) S hK hH j_X0 t0 rfl hq_0_5 (hts _ (wU_in _ m_177)) dX0_add_1 ?_
  refine lv_bipush (v := 14) hx hb dX0_add_4 (by decide) ?_
  refine lv_icmp_ne (tgt := 32) hx hb dX0_add_6 (by decide) (fun c5 => ?_) (fun c5 => ?_)
  · replace hf := ite_f c5 hf
    exact B32 _ hf H locs ls (lv_sub hl [0, 1, 2, 3, 4] rfl) hH
  · replace hf := ite_t c5 hf
    refine lv_aload_n hx hb dX0_add_9 rfl (lv_at hl 0 rfl) ?_
    refine lv_aload_n hx hb dX0_add_10 rfl (lv_at hl 0 rfl) ?_
    refine wk_geti (ci := 0) (k := 4) S hK hH j_X0 t0 rfl hq_0_4 (hts _ (wU_in _ m_176)) dX0_add_11 ?_
    refine lv_iconst (v := 1) hx hb dX0_add_14 (by decide) ?_
    refine lv_iadd hx hb dX0_add_15 ?_
    refine lv_bipush (v := 14) hx hb dX0_add_16 (by decide) ?_
    refine lv_irem hx hb dX0_add_18 (by decide) ?_
    refine wk_puti (ci := 0) (k := 4) S hK hH j_X0 tyX0 tyX0_ok nmX0 t0 rfl hq_0_4 rfl hd_0_4 (hts _ (wU_in _ m_176)) dX0_add_19 (fun H locs hH => ?_)
    refine lv_aload_n hx hb dX0_add_22 rfl (lv_at hl 0 rfl) ?_
    refine lv_dup hx hb dX0_add_23 rfl ?_
    refine wk_geti (ci := 0) (k := 5) S hK hH j_X0 t0 rfl hq_0_5 (hts _ (wU_in _ m_177)) dX0_add_24 ?_
    refine lv_iconst (v := 1) hx hb dX0_add_27 (by decide) ?_
    refine lv_isub hx hb dX0_add_28 ?_
    refine wk_puti (ci := 0) (k := 5) S hK hH j_X0 tyX0 tyX0_ok nmX0 t0 rfl hq_0_5 rfl hd_0_5 (hts _ (wU_in _ m_177)) dX0_add_29 (fun H locs hH => ?_)
    exact B32 _ hf H locs ls (lv_sub hl [0, 1, 2, 3, 4] rfl) hH
set_option maxHeartbeats 4000000 in
set_option maxRecDepth 100000 in
theorem C_X4_exchange (l : Launch) (X : Cx) (hI : Inj X) {a0 : Nat} (t0 : tY a0 = 4) (a1 : Int32) (a2 : Int32) (h : Hp) (h0 : Hp) (hf : f_X4_exchange a0 a1 a2 h = some h0) : Mv l X yX4_exchange cX4_exchange 4 none 0 0 h [.ref (X.2.2.2 a0), .int a1, .int a2] h0 := by
  refine BD_of (own := RX4) hI rfl (by decide) (Nat.le_of_ble_eq_true rfl) ?_
  intro p e s m args below meth c S hr hlk hK hN
  obtain ⟨hx, hb, hml, hown, hts⟩ := id S
  intro H locs ls hl hH
  replace hl : lv_has ls 4 [(0, .ref (X.2.2.2 a0)), (1, .int a1), (2, .int a2)] := hl
  unfold f_X4_exchange at hf
  refine lv_aload_n hx hb dX4_exchange_0 rfl (lv_at hl 0 rfl) ?_
  refine wk_getr (ci := 4) (k := 2) S hK hH j_X4 t0 rfl hq_4_2 (hts _ (wU_in _ m_145)) dX4_exchange_1 ?_
  refine lv_iload_n hx hb dX4_exchange_4 rfl (lv_at hl 1 rfl) ?_
  obtain ⟨o1, hf⟩ := ite_ok hf
  refine wk_iald S hK hH (tr_4_2 t0) o1 dX4_exchange_5 ?_
  refine lv_istore_n (lv' := [(3, .int ((h.1 (rF a0 2) (a1).toNatClampNeg))), (0, .ref (X.2.2.2 a0)), (1, .int a1), (2, .int a2)]) hx hb dX4_exchange_6 rfl hl (by decide) rfl (fun ls hl => ?_)
  refine lv_aload_n hx hb dX4_exchange_7 rfl (lv_at hl 1 rfl) ?_
  refine wk_getr (ci := 4) (k := 2) S hK hH j_X4 t0 rfl hq_4_2 (hts _ (wU_in _ m_145)) dX4_exchange_8 ?_
  refine lv_iload_n hx hb dX4_exchange_11 rfl (lv_at hl 2 rfl) ?_
  refine lv_aload_n hx hb dX4_exchange_12 rfl (lv_at hl 1 rfl) ?_
  refine wk_getr (ci := 4) (k := 2) S hK hH j_X4 t0 rfl hq_4_2 (hts _ (wU_in _ m_145)) dX4_exchange_13 ?_
  refine lv_iload_n hx hb dX4_exchange_16 rfl (lv_at hl 3 rfl) ?_
  obtain ⟨o2, hf⟩ := ite_ok hf
  refine wk_iald S hK hH (tr_4_2 t0) o2 dX4_exchange_17 ?_
  obtain ⟨o3, hf⟩ := ite_ok hf
  refine wk_iast S hK hH (tr_4_2 t0) o3 dX4_exchange_18 (fun H locs hH => ?_)
  refine lv_aload_n hx hb dX4_exchange_19 rfl (lv_at hl 1 rfl) ?_
  refine wk_getr (ci := 4) (k := 2) S hK hH j_X4 t0 rfl hq_4_2 (hts _ (wU_in _ m_145)) dX4_exchange_20 ?_
  refine lv_iload_n hx hb dX4_exchange_23 rfl (lv_at hl 3 rfl) ?_
  refine lv_iload_n hx hb dX4_exchange_24 rfl (lv_at hl 0 rfl) ?_
  obtain ⟨o4, hf⟩ := ite_ok hf
  refine wk_iast S hK hH (tr_4_2 t0) o4 dX4_exchange_25 (fun H locs hH => ?_)
  exact wk_vret S hr hlk hK hN hH hf dX4_exchange_26
set_option maxHeartbeats 4000000 in
set_option maxRecDepth 100000 in
theorem C_X4_putSign (l : Launch) (X : Cx) (hI : Inj X) {a0 : Nat} (t0 : tY a0 = 4) (a1 : Int32) (a2 : Int32) (a3 : Int32) (h : Hp) (h0 : Hp) (hf : f_X4_putSign a0 a1 a2 a3 h = some h0) : Mv l X yX4_putSign cX4_putSign 4 none 0 0 h [.ref (X.2.2.2 a0), .int a1, .int a2, .int a3] h0 := by
  refine BD_of (own := RX4) hI rfl (by decide) (Nat.le_of_ble_eq_true rfl) ?_
  intro p e s m args below meth c S hr hlk hK hN
  obtain ⟨hx, hb, hml, hown, hts⟩ := id S
  intro H locs ls hl hH
  replace hl : lv_has ls 4 [(0, .ref (X.2.2.2 a0)), (1, .int a1), (2, .int a2), (3, .int a3)] := hl
  unfold f_X4_putSign at hf
  refine lv_aload_n hx hb dX4_putSign_0 rfl (lv_at hl 0 rfl) ?_
  refine wk_getr (ci := 4) (k := 1) S hK hH j_X4 t0 rfl hq_4_1 (hts _ (wU_in _ m_144)) dX4_putSign_1 ?_
  refine lv_iload_n hx hb dX4_putSign_4 rfl (lv_at hl 1 rfl) ?_
  refine lv_iconst (v := 4) hx hb dX4_putSign_5 (by decide) ?_
  refine lv_imul hx hb dX4_putSign_6 ?_
  refine lv_iload_n hx hb dX4_putSign_7 rfl (lv_at hl 2 rfl) ?_
  refine lv_iadd hx hb dX4_putSign_8 ?_
  refine lv_iload_n hx hb dX4_putSign_9 rfl (lv_at hl 3 rfl) ?_
  obtain ⟨o1, hf⟩ := ite_ok hf
  refine wk_iast S hK hH (tr_4_1 t0) o1 dX4_putSign_10 (fun H locs hH => ?_)
  exact wk_vret S hr hlk hK hN hH hf dX4_putSign_11
set_option maxHeartbeats 4000000 in
set_option maxRecDepth 100000 in
theorem C_X4_putForm (l : Launch) (X : Cx) (hI : Inj X) {a0 : Nat} (t0 : tY a0 = 4) (a1 : Int32) (a2 : Int32) (a3 : Int32) (h : Hp) (h0 : Hp) (hf : f_X4_putForm a0 a1 a2 a3 h = some h0) : Mv l X yX4_putForm cX4_putForm 4 none 0 0 h [.ref (X.2.2.2 a0), .int a1, .int a2, .int a3] h0 := by
  refine BD_of (own := RX4) hI rfl (by decide) (Nat.le_of_ble_eq_true rfl) ?_
  intro p e s m args below meth c S hr hlk hK hN
  obtain ⟨hx, hb, hml, hown, hts⟩ := id S
  intro H locs ls hl hH
  replace hl : lv_has ls 4 [(0, .ref (X.2.2.2 a0)), (1, .int a1), (2, .int a2), (3, .int a3)] := hl
  unfold f_X4_putForm at hf
  refine lv_aload_n hx hb dX4_putForm_0 rfl (lv_at hl 0 rfl) ?_
  refine wk_getr (ci := 4) (k := 3) S hK hH j_X4 t0 rfl hq_4_3 (hts _ (wU_in _ m_147)) dX4_putForm_1 ?_
  refine lv_iload_n hx hb dX4_putForm_4 rfl (lv_at hl 1 rfl) ?_
  refine lv_iconst (v := 3) hx hb dX4_putForm_5 (by decide) ?_
  refine lv_imul hx hb dX4_putForm_6 ?_
  refine lv_iload_n hx hb dX4_putForm_7 rfl (lv_at hl 2 rfl) ?_
  refine lv_iadd hx hb dX4_putForm_8 ?_
  refine lv_iload_n hx hb dX4_putForm_9 rfl (lv_at hl 3 rfl) ?_
  obtain ⟨o1, hf⟩ := ite_ok hf
  refine wk_iast S hK hH (tr_4_3 t0) o1 dX4_putForm_10 (fun H locs hH => ?_)
  exact wk_vret S hr hlk hK hN hH hf dX4_putForm_11
set_option maxHeartbeats 4000000 in
set_option maxRecDepth 100000 in
theorem C_X0_takeBackLast (l : Launch) (X : Cx) (hI : Inj X) {a0 : Nat} (t0 : tY a0 = 0) {a1 : Nat} (t1 : tY a1 = 4) (h : Hp) (h0 : Hp) (hf : f_X0_takeBackLast a0 a1 h = some h0) : Mv l X yX0_takeBackLast cX0_takeBackLast 3 none 1 23 h [.ref (X.2.2.2 a0), .ref (X.2.2.2 a1)] h0 := by
  refine BD_of (own := RX0) hI rfl (by decide) (Nat.le_of_ble_eq_true rfl) ?_
  intro p e s m args below meth c S hr hlk hK hN
  obtain ⟨hx, hb, hml, hown, hts⟩ := id S
  intro H locs ls hl hH
  replace hl : lv_has ls 3 [(0, .ref (X.2.2.2 a0)), (1, .ref (X.2.2.2 a1))] := hl
  unfold f_X0_takeBackLast at hf
  refine lv_aload_n hx hb dX0_takeBackLast_0 rfl (lv_at hl 0 rfl) ?_
  refine wk_geti (ci := 0) (k := 5) S hK hH j_X0 t0 rfl hq_0_5 (hts _ (wU_in _ m_177)) dX0_takeBackLast_1 ?_
  refine lv_if_ne (tgt := 8) hx hb dX0_takeBackLast_4 (by decide) (fun c1 => ?_) (fun c1 => ?_)
  · replace hf := ite_f c1 hf
    refine lv_aload_n hx hb dX0_takeBackLast_8 rfl (lv_at hl 0 rfl) ?_
    refine lv_dup hx hb dX0_takeBackLast_9 rfl ?_
    refine wk_geti (ci := 0) (k := 5) S hK hH j_X0 t0 rfl hq_0_5 (hts _ (wU_in _ m_177)) dX0_takeBackLast_10 ?_
    refine lv_iconst (v := 1) hx hb dX0_takeBackLast_13 (by decide) ?_
    refine lv_isub hx hb dX0_takeBackLast_14 ?_
    refine wk_puti (ci := 0) (k := 5) S hK hH j_X0 tyX0 tyX0_ok nmX0 t0 rfl hq_0_5 rfl hd_0_5 (hts _ (wU_in _ m_177)) dX0_takeBackLast_15 (fun H locs hH => ?_)
    refine lv_aload_n hx hb dX0_takeBackLast_18 rfl (lv_at hl 0 rfl) ?_
    refine wk_geti (ci := 0) (k := 4) S hK hH j_X0 t0 rfl hq_0_4 (hts _ (wU_in _ m_176)) dX0_takeBackLast_19 ?_
    refine lv_aload_n hx hb dX0_takeBackLast_22 rfl (lv_at hl 0 rfl) ?_
    refine wk_geti (ci := 0) (k := 5) S hK hH j_X0 t0 rfl hq_0_5 (hts _ (wU_in _ m_177)) dX0_takeBackLast_23 ?_
    refine lv_iadd hx hb dX0_takeBackLast_26 ?_
    refine lv_bipush (v := 14) hx hb dX0_takeBackLast_27 (by decide) ?_
    refine lv_irem hx hb dX0_takeBackLast_29 (by decide) ?_
    refine lv_istore_n (lv' := [(2, .int (((((sI h a0 5 ((h.1 a0 5) - (1 : Int32))).1 a0 4) + ((sI h a0 5 ((h.1 a0 5) - (1 : Int32))).1 a0 5)) - (((sI h a0 5 ((h.1 a0 5) - (1 : Int32))).1 a0 4) + ((sI h a0 5 ((h.1 a0 5) - (1 : Int32))).1 a0 5)) / (14 : Int32) * (14 : Int32)))), (0, .ref (X.2.2.2 a0)), (1, .ref (X.2.2.2 a1))]) hx hb dX0_takeBackLast_30 rfl hl (by decide) rfl (fun ls hl => ?_)
    refine lv_aload_n hx hb dX0_takeBackLast_31 rfl (lv_at hl 1 rfl) ?_
    refine wk_getr (ci := 0) (k := 0) S hK hH j_X0 t0 rfl hq_0_0 (hts _ (wU_in _ m_172)) dX0_takeBackLast_32 ?_
    refine lv_iload_n hx hb dX0_takeBackLast_35 rfl (lv_at hl 0 rfl) ?_
    obtain ⟨o2, hf⟩ := ite_ok hf
    refine wk_iald S hK hH (tr_0_0 t0) o2 dX0_takeBackLast_36 ?_
    by_cases c3 : ((sI h a0 5 ((h.1 a0 5) - (1 : Int32))).1 (rF a0 0) (((((sI h a0 5 ((h.1 a0 5) - (1 : Int32))).1 a0 4) + ((sI h a0 5 ((h.1 a0 5) - (1 : Int32))).1 a0 5)) - (((sI h a0 5 ((h.1 a0 5) - (1 : Int32))).1 a0 4) + ((sI h a0 5 ((h.1 a0 5) - (1 : Int32))).1 a0 5)) / (14 : Int32) * (14 : Int32))).toNatClampNeg) = 1
    · replace hf := ite_t c3 hf
      refine lv_tableIn (off := 27) (tgt := 64) hx hb dX0_takeBackLast_37 (by rw [c3]; decide) (by rw [c3]; decide) (by rw [c3]; decide) (by decide) ?_
      refine lv_aload_n hx hb dX0_takeBackLast_64 rfl (lv_at hl 2 rfl) ?_
      refine lv_aload_n hx hb dX0_takeBackLast_65 rfl (lv_at hl 1 rfl) ?_
      refine wk_getr (ci := 0) (k := 1) S hK hH j_X0 t0 rfl hq_0_1 (hts _ (wU_in _ m_173)) dX0_takeBackLast_66 ?_
      refine lv_iload_n hx hb dX0_takeBackLast_69 rfl (lv_at hl 0 rfl) ?_
      obtain ⟨o4, hf⟩ := ite_ok hf
      refine wk_iald S hK hH (tr_0_1 t0) o4 dX0_takeBackLast_70 ?_
      refine lv_aload_n hx hb dX0_takeBackLast_71 rfl (lv_at hl 1 rfl) ?_
      refine wk_getr (ci := 0) (k := 2) S hK hH j_X0 t0 rfl hq_0_2 (hts _ (wU_in _ m_174)) dX0_takeBackLast_72 ?_
      refine lv_iload_n hx hb dX0_takeBackLast_75 rfl (lv_at hl 0 rfl) ?_
      obtain ⟨o5, hf⟩ := ite_ok hf
      refine wk_iald S hK hH (tr_0_2 t0) o5 dX0_takeBackLast_76 ?_
      obtain ⟨h7, hq6, hf⟩ := bind_ok hf
      refine wk_callVv (ci := 4) (b := a1) (As := [.int (((sI h a0 5 ((h.1 a0 5) - (1 : Int32))).1 (rF a0 1) (((((sI h a0 5 ((h.1 a0 5) - (1 : Int32))).1 a0 4) + ((sI h a0 5 ((h.1 a0 5) - (1 : Int32))).1 a0 5)) - (((sI h a0 5 ((h.1 a0 5) - (1 : Int32))).1 a0 4) + ((sI h a0 5 ((h.1 a0 5) - (1 : Int32))).1 a0 5)) / (14 : Int32) * (14 : Int32))).toNatClampNeg)), .int (((sI h a0 5 ((h.1 a0 5) - (1 : Int32))).1 (rF a0 2) (((((sI h a0 5 ((h.1 a0 5) - (1 : Int32))).1 a0 4) + ((sI h a0 5 ((h.1 a0 5) - (1 : Int32))).1 a0 5)) - (((sI h a0 5 ((h.1 a0 5) - (1 : Int32))).1 a0 4) + ((sI h a0 5 ((h.1 a0 5) - (1 : Int32))).1 a0 5)) / (14 : Int32) * (14 : Int32))).toNatClampNeg))]) (rest := []) S hK hN hH t1 (by decide) rfl (C_X4_exchange l X hI t1 ((sI h a0 5 ((h.1 a0 5) - (1 : Int32))).1 (rF a0 1) (((((sI h a0 5 ((h.1 a0 5) - (1 : Int32))).1 a0 4) + ((sI h a0 5 ((h.1 a0 5) - (1 : Int32))).1 a0 5)) - (((sI h a0 5 ((h.1 a0 5) - (1 : Int32))).1 a0 4) + ((sI h a0 5 ((h.1 a0 5) - (1 : Int32))).1 a0 5)) / (14 : Int32) * (14 : Int32))).toNatClampNeg) ((sI h a0 5 ((h.1 a0 5) - (1 : Int32))).1 (rF a0 2) (((((sI h a0 5 ((h.1 a0 5) - (1 : Int32))).1 a0 4) + ((sI h a0 5 ((h.1 a0 5) - (1 : Int32))).1 a0 5)) - (((sI h a0 5 ((h.1 a0 5) - (1 : Int32))).1 a0 4) + ((sI h a0 5 ((h.1 a0 5) - (1 : Int32))).1 a0 5)) / (14 : Int32) * (14 : Int32))).toNatClampNeg) _ _ hq6) (cwV 2 hts (gV wU_in m_482 m_450 m_451 m_38 m_452) rfl rfl rfl hdV_X4_exchange ⟨Nat.le_of_ble_eq_true rfl, Nat.le_of_ble_eq_true rfl⟩) hl.1 rfl rfl (Nat.le_of_ble_eq_true rfl) dX0_takeBackLast_77 ⟨Nat.zero_le _, Nat.zero_le _⟩ (fun H locs hH => ?_)
      refine lv_goto (tgt := 133) hx hb dX0_takeBackLast_80 (by decide) ?_
      exact wk_vret S hr hlk hK hN hH hf dX0_takeBackLast_133
    replace hf := ite_f c3 hf
    by_cases c9 : ((sI h a0 5 ((h.1 a0 5) - (1 : Int32))).1 (rF a0 0) (((((sI h a0 5 ((h.1 a0 5) - (1 : Int32))).1 a0 4) + ((sI h a0 5 ((h.1 a0 5) - (1 : Int32))).1 a0 5)) - (((sI h a0 5 ((h.1 a0 5) - (1 : Int32))).1 a0 4) + ((sI h a0 5 ((h.1 a0 5) - (1 : Int32))).1 a0 5)) / (14 : Int32) * (14 : Int32))).toNatClampNeg) = 2
    · replace hf := ite_t c9 hf
      refine lv_tableIn (off := 46) (tgt := 83) hx hb dX0_takeBackLast_37 (by rw [c9]; decide) (by rw [c9]; decide) (by rw [c9]; decide) (by decide) ?_
      refine lv_aload_n hx hb dX0_takeBackLast_83 rfl (lv_at hl 2 rfl) ?_
      refine lv_aload_n hx hb dX0_takeBackLast_84 rfl (lv_at hl 1 rfl) ?_
      refine wk_getr (ci := 0) (k := 1) S hK hH j_X0 t0 rfl hq_0_1 (hts _ (wU_in _ m_173)) dX0_takeBackLast_85 ?_
      refine lv_iload_n hx hb dX0_takeBackLast_88 rfl (lv_at hl 0 rfl) ?_
      obtain ⟨o10, hf⟩ := ite_ok hf
      refine wk_iald S hK hH (tr_0_1 t0) o10 dX0_takeBackLast_89 ?_
      refine lv_aload_n hx hb dX0_takeBackLast_90 rfl (lv_at hl 1 rfl) ?_
      refine wk_getr (ci := 0) (k := 2) S hK hH j_X0 t0 rfl hq_0_2 (hts _ (wU_in _ m_174)) dX0_takeBackLast_91 ?_
      refine lv_iload_n hx hb dX0_takeBackLast_94 rfl (lv_at hl 0 rfl) ?_
      obtain ⟨o11, hf⟩ := ite_ok hf
      refine wk_iald S hK hH (tr_0_2 t0) o11 dX0_takeBackLast_95 ?_
      refine lv_aload_n hx hb dX0_takeBackLast_96 rfl (lv_at hl 1 rfl) ?_
      refine wk_getr (ci := 0) (k := 3) S hK hH j_X0 t0 rfl hq_0_3 (hts _ (wU_in _ m_175)) dX0_takeBackLast_97 ?_
      refine lv_iload_n hx hb dX0_takeBackLast_100 rfl (lv_at hl 0 rfl) ?_
      obtain ⟨o12, hf⟩ := ite_ok hf
      refine wk_iald S hK hH (tr_0_3 t0) o12 dX0_takeBackLast_101 ?_
      obtain ⟨h14, hq13, hf⟩ := bind_ok hf
      refine wk_callVv (ci := 4) (b := a1) (As := [.int (((sI h a0 5 ((h.1 a0 5) - (1 : Int32))).1 (rF a0 1) (((((sI h a0 5 ((h.1 a0 5) - (1 : Int32))).1 a0 4) + ((sI h a0 5 ((h.1 a0 5) - (1 : Int32))).1 a0 5)) - (((sI h a0 5 ((h.1 a0 5) - (1 : Int32))).1 a0 4) + ((sI h a0 5 ((h.1 a0 5) - (1 : Int32))).1 a0 5)) / (14 : Int32) * (14 : Int32))).toNatClampNeg)), .int (((sI h a0 5 ((h.1 a0 5) - (1 : Int32))).1 (rF a0 2) (((((sI h a0 5 ((h.1 a0 5) - (1 : Int32))).1 a0 4) + ((sI h a0 5 ((h.1 a0 5) - (1 : Int32))).1 a0 5)) - (((sI h a0 5 ((h.1 a0 5) - (1 : Int32))).1 a0 4) + ((sI h a0 5 ((h.1 a0 5) - (1 : Int32))).1 a0 5)) / (14 : Int32) * (14 : Int32))).toNatClampNeg)), .int (((sI h a0 5 ((h.1 a0 5) - (1 : Int32))).1 (rF a0 3) (((((sI h a0 5 ((h.1 a0 5) - (1 : Int32))).1 a0 4) + ((sI h a0 5 ((h.1 a0 5) - (1 : Int32))).1 a0 5)) - (((sI h a0 5 ((h.1 a0 5) - (1 : Int32))).1 a0 4) + ((sI h a0 5 ((h.1 a0 5) - (1 : Int32))).1 a0 5)) / (14 : Int32) * (14 : Int32))).toNatClampNeg))]) (rest := []) S hK hN hH t1 (by decide) rfl (C_X4_putSign l X hI t1 ((sI h a0 5 ((h.1 a0 5) - (1 : Int32))).1 (rF a0 1) (((((sI h a0 5 ((h.1 a0 5) - (1 : Int32))).1 a0 4) + ((sI h a0 5 ((h.1 a0 5) - (1 : Int32))).1 a0 5)) - (((sI h a0 5 ((h.1 a0 5) - (1 : Int32))).1 a0 4) + ((sI h a0 5 ((h.1 a0 5) - (1 : Int32))).1 a0 5)) / (14 : Int32) * (14 : Int32))).toNatClampNeg) ((sI h a0 5 ((h.1 a0 5) - (1 : Int32))).1 (rF a0 2) (((((sI h a0 5 ((h.1 a0 5) - (1 : Int32))).1 a0 4) + ((sI h a0 5 ((h.1 a0 5) - (1 : Int32))).1 a0 5)) - (((sI h a0 5 ((h.1 a0 5) - (1 : Int32))).1 a0 4) + ((sI h a0 5 ((h.1 a0 5) - (1 : Int32))).1 a0 5)) / (14 : Int32) * (14 : Int32))).toNatClampNeg) ((sI h a0 5 ((h.1 a0 5) - (1 : Int32))).1 (rF a0 3) (((((sI h a0 5 ((h.1 a0 5) - (1 : Int32))).1 a0 4) + ((sI h a0 5 ((h.1 a0 5) - (1 : Int32))).1 a0 5)) - (((sI h a0 5 ((h.1 a0 5) - (1 : Int32))).1 a0 4) + ((sI h a0 5 ((h.1 a0 5) - (1 : Int32))).1 a0 5)) / (14 : Int32) * (14 : Int32))).toNatClampNeg) _ _ hq13) (cwV 3 hts (gV wU_in m_483 m_463 m_464 m_38 m_465) rfl rfl rfl hdV_X4_putSign ⟨Nat.le_of_ble_eq_true rfl, Nat.le_of_ble_eq_true rfl⟩) hl.1 rfl rfl (Nat.le_of_ble_eq_true rfl) dX0_takeBackLast_102 ⟨Nat.zero_le _, Nat.zero_le _⟩ (fun H locs hH => ?_)
      refine lv_goto (tgt := 133) hx hb dX0_takeBackLast_105 (by decide) ?_
      exact wk_vret S hr hlk hK hN hH hf dX0_takeBackLast_133
    replace hf := ite_f c9 hf
    by_cases c16 : ((sI h a0 5 ((h.1 a0 5) - (1 : Int32))).1 (rF a0 0) (((((sI h a0 5 ((h.1 a0 5) - (1 : Int32))).1 a0 4) + ((sI h a0 5 ((h.1 a0 5) - (1 : Int32))).1 a0 5)) - (((sI h a0 5 ((h.1 a0 5) - (1 : Int32))).1 a0 4) + ((sI h a0 5 ((h.1 a0 5) - (1 : Int32))).1 a0 5)) / (14 : Int32) * (14 : Int32))).toNatClampNeg) = 3
    · replace hf := ite_t c16 hf
      refine lv_tableIn (off := 71) (tgt := 108) hx hb dX0_takeBackLast_37 (by rw [c16]; decide) (by rw [c16]; decide) (by rw [c16]; decide) (by decide) ?_
      refine lv_aload_n hx hb dX0_takeBackLast_108 rfl (lv_at hl 2 rfl) ?_
      refine lv_aload_n hx hb dX0_takeBackLast_109 rfl (lv_at hl 1 rfl) ?_
      refine wk_getr (ci := 0) (k := 1) S hK hH j_X0 t0 rfl hq_0_1 (hts _ (wU_in _ m_173)) dX0_takeBackLast_110 ?_
      refine lv_iload_n hx hb dX0_takeBackLast_113 rfl (lv_at hl 0 rfl) ?_
      obtain ⟨o17, hf⟩ := ite_ok hf
      refine wk_iald S hK hH (tr_0_1 t0) o17 dX0_takeBackLast_114 ?_
      refine lv_aload_n hx hb dX0_takeBackLast_115 rfl (lv_at hl 1 rfl) ?_
      refine wk_getr (ci := 0) (k := 2) S hK hH j_X0 t0 rfl hq_0_2 (hts _ (wU_in _ m_174)) dX0_takeBackLast_116 ?_
      refine lv_iload_n hx hb dX0_takeBackLast_119 rfl (lv_at hl 0 rfl) ?_
      obtain ⟨o18, hf⟩ := ite_ok hf
      refine wk_iald S hK hH (tr_0_2 t0) o18 dX0_takeBackLast_120 ?_
      refine lv_aload_n hx hb dX0_takeBackLast_121 rfl (lv_at hl 1 rfl) ?_
      refine wk_getr (ci := 0) (k := 3) S hK hH j_X0 t0 rfl hq_0_3 (hts _ (wU_in _ m_175)) dX0_takeBackLast_122 ?_
      refine lv_iload_n hx hb dX0_takeBackLast_125 rfl (lv_at hl 0 rfl) ?_
      obtain ⟨o19, hf⟩ := ite_ok hf
      refine wk_iald S hK hH (tr_0_3 t0) o19 dX0_takeBackLast_126 ?_
      obtain ⟨h21, hq20, hf⟩ := bind_ok hf
      refine wk_callVv (ci := 4) (b := a1) (As := [.int (((sI h a0 5 ((h.1 a0 5) - (1 : Int32))).1 (rF a0 1) (((((sI h a0 5 ((h.1 a0 5) - (1 : Int32))).1 a0 4) + ((sI h a0 5 ((h.1 a0 5) - (1 : Int32))).1 a0 5)) - (((sI h a0 5 ((h.1 a0 5) - (1 : Int32))).1 a0 4) + ((sI h a0 5 ((h.1 a0 5) - (1 : Int32))).1 a0 5)) / (14 : Int32) * (14 : Int32))).toNatClampNeg)), .int (((sI h a0 5 ((h.1 a0 5) - (1 : Int32))).1 (rF a0 2) (((((sI h a0 5 ((h.1 a0 5) - (1 : Int32))).1 a0 4) + ((sI h a0 5 ((h.1 a0 5) - (1 : Int32))).1 a0 5)) - (((sI h a0 5 ((h.1 a0 5) - (1 : Int32))).1 a0 4) + ((sI h a0 5 ((h.1 a0 5) - (1 : Int32))).1 a0 5)) / (14 : Int32) * (14 : Int32))).toNatClampNeg)), .int (((sI h a0 5 ((h.1 a0 5) - (1 : Int32))).1 (rF a0 3) (((((sI h a0 5 ((h.1 a0 5) - (1 : Int32))).1 a0 4) + ((sI h a0 5 ((h.1 a0 5) - (1 : Int32))).1 a0 5)) - (((sI h a0 5 ((h.1 a0 5) - (1 : Int32))).1 a0 4) + ((sI h a0 5 ((h.1 a0 5) - (1 : Int32))).1 a0 5)) / (14 : Int32) * (14 : Int32))).toNatClampNeg))]) (rest := []) S hK hN hH t1 (by decide) rfl (C_X4_putForm l X hI t1 ((sI h a0 5 ((h.1 a0 5) - (1 : Int32))).1 (rF a0 1) (((((sI h a0 5 ((h.1 a0 5) - (1 : Int32))).1 a0 4) + ((sI h a0 5 ((h.1 a0 5) - (1 : Int32))).1 a0 5)) - (((sI h a0 5 ((h.1 a0 5) - (1 : Int32))).1 a0 4) + ((sI h a0 5 ((h.1 a0 5) - (1 : Int32))).1 a0 5)) / (14 : Int32) * (14 : Int32))).toNatClampNeg) ((sI h a0 5 ((h.1 a0 5) - (1 : Int32))).1 (rF a0 2) (((((sI h a0 5 ((h.1 a0 5) - (1 : Int32))).1 a0 4) + ((sI h a0 5 ((h.1 a0 5) - (1 : Int32))).1 a0 5)) - (((sI h a0 5 ((h.1 a0 5) - (1 : Int32))).1 a0 4) + ((sI h a0 5 ((h.1 a0 5) - (1 : Int32))).1 a0 5)) / (14 : Int32) * (14 : Int32))).toNatClampNeg) ((sI h a0 5 ((h.1 a0 5) - (1 : Int32))).1 (rF a0 3) (((((sI h a0 5 ((h.1 a0 5) - (1 : Int32))).1 a0 4) + ((sI h a0 5 ((h.1 a0 5) - (1 : Int32))).1 a0 5)) - (((sI h a0 5 ((h.1 a0 5) - (1 : Int32))).1 a0 4) + ((sI h a0 5 ((h.1 a0 5) - (1 : Int32))).1 a0 5)) / (14 : Int32) * (14 : Int32))).toNatClampNeg) _ _ hq20) (cwV 3 hts (gV wU_in m_484 m_471 m_472 m_38 m_473) rfl rfl rfl hdV_X4_putForm ⟨Nat.le_of_ble_eq_true rfl, Nat.le_of_ble_eq_true rfl⟩) hl.1 rfl rfl (Nat.le_of_ble_eq_true rfl) dX0_takeBackLast_127 ⟨Nat.zero_le _, Nat.zero_le _⟩ (fun H locs hH => ?_)
      refine lv_goto (tgt := 133) hx hb dX0_takeBackLast_130 (by decide) ?_
      exact wk_vret S hr hlk hK hN hH hf dX0_takeBackLast_133
    replace hf := ite_f c16 hf
    have ec3 := lv_neT (a := 1) c3 (by decide)
    have ec9 := lv_neT (a := 2) c9 (by decide)
    have ec16 := lv_neT (a := 3) c16 (by decide)
    refine lv_tableOut (tgt := 133) hx hb dX0_takeBackLast_37 (by omega) (by decide) ?_
    exact wk_vret S hr hlk hK hN hH hf dX0_takeBackLast_133
  · replace hf := ite_t c1 hf
    exact wk_vret S hr hlk hK hN hH hf dX0_takeBackLast_7
set_option maxHeartbeats 4000000 in
set_option maxRecDepth 100000 in
theorem C_X1_add (l : Launch) (X : Cx) (hI : Inj X) {a0 : Nat} (t0 : tY a0 = 1) (a1 : Int32) (a2 : Int32) (a3 : Int32) (a4 : Int32) (h : Hp) (r0 : Int32) (h0 : Hp) (hf : f_X1_add a0 a1 a2 a3 a4 h = some (r0, h0)) : Mi l X yX1_add cX1_add 5 (some .boolean) 0 0 h [.ref (X.2.2.2 a0), .int a1, .int a2, .int a3, .int a4] r0 h0 := by
  refine BD_of (own := RX1) hI rfl (by decide) (Nat.le_of_ble_eq_true rfl) ?_
  intro p e s m args below meth c S hr hlk hK hN
  obtain ⟨hx, hb, hml, hown, hts⟩ := id S
  intro H locs ls hl hH
  replace hl : lv_has ls 5 [(0, .ref (X.2.2.2 a0)), (1, .int a1), (2, .int a2), (3, .int a3), (4, .int a4)] := hl
  unfold f_X1_add at hf
  refine lv_aload_n hx hb dX1_add_0 rfl (lv_at hl 0 rfl) ?_
  refine wk_geti (ci := 1) (k := 4) S hK hH j_X1 t0 rfl hq_1_4 (hts _ (wU_in _ m_203)) dX1_add_1 ?_
  refine lv_bipush (v := 6) hx hb dX1_add_4 (by decide) ?_
  refine lv_icmp_lt (tgt := 11) hx hb dX1_add_6 (by decide) (fun c1 => ?_) (fun c1 => ?_)
  · replace hf := ite_t c1 hf
    refine lv_aload_n hx hb dX1_add_11 rfl (lv_at hl 0 rfl) ?_
    refine wk_getr (ci := 1) (k := 0) S hK hH j_X1 t0 rfl hq_1_0 (hts _ (wU_in _ m_199)) dX1_add_12 ?_
    refine lv_aload_n hx hb dX1_add_15 rfl (lv_at hl 0 rfl) ?_
    refine wk_geti (ci := 1) (k := 4) S hK hH j_X1 t0 rfl hq_1_4 (hts _ (wU_in _ m_203)) dX1_add_16 ?_
    refine lv_iload_n hx hb dX1_add_19 rfl (lv_at hl 1 rfl) ?_
    obtain ⟨o2, hf⟩ := ite_ok hf
    refine wk_iast S hK hH (tr_1_0 t0) o2 dX1_add_20 (fun H locs hH => ?_)
    refine lv_aload_n hx hb dX1_add_21 rfl (lv_at hl 0 rfl) ?_
    refine wk_getr (ci := 1) (k := 1) S hK hH j_X1 t0 rfl hq_1_1 (hts _ (wU_in _ m_200)) dX1_add_22 ?_
    refine lv_aload_n hx hb dX1_add_25 rfl (lv_at hl 0 rfl) ?_
    refine wk_geti (ci := 1) (k := 4) S hK hH j_X1 t0 rfl hq_1_4 (hts _ (wU_in _ m_203)) dX1_add_26 ?_
    refine lv_iload_n hx hb dX1_add_29 rfl (lv_at hl 2 rfl) ?_
    obtain ⟨o3, hf⟩ := ite_ok hf
    refine wk_iast S hK hH (tr_1_1 t0) o3 dX1_add_30 (fun H locs hH => ?_)
    refine lv_aload_n hx hb dX1_add_31 rfl (lv_at hl 0 rfl) ?_
    refine wk_getr (ci := 1) (k := 2) S hK hH j_X1 t0 rfl hq_1_2 (hts _ (wU_in _ m_201)) dX1_add_32 ?_
    refine lv_aload_n hx hb dX1_add_35 rfl (lv_at hl 0 rfl) ?_
    refine wk_geti (ci := 1) (k := 4) S hK hH j_X1 t0 rfl hq_1_4 (hts _ (wU_in _ m_203)) dX1_add_36 ?_
    refine lv_iload_n hx hb dX1_add_39 rfl (lv_at hl 3 rfl) ?_
    obtain ⟨o4, hf⟩ := ite_ok hf
    refine wk_iast S hK hH (tr_1_2 t0) o4 dX1_add_40 (fun H locs hH => ?_)
    refine lv_aload_n hx hb dX1_add_41 rfl (lv_at hl 0 rfl) ?_
    refine wk_getr (ci := 1) (k := 3) S hK hH j_X1 t0 rfl hq_1_3 (hts _ (wU_in _ m_202)) dX1_add_42 ?_
    refine lv_aload_n hx hb dX1_add_45 rfl (lv_at hl 0 rfl) ?_
    refine wk_geti (ci := 1) (k := 4) S hK hH j_X1 t0 rfl hq_1_4 (hts _ (wU_in _ m_203)) dX1_add_46 ?_
    refine lv_iload hx hb dX1_add_49 (lv_at hl 4 rfl) ?_
    obtain ⟨o5, hf⟩ := ite_ok hf
    refine wk_zast S hK hH (tr_1_3 t0) o5 dX1_add_51 (fun H locs hH => ?_)
    refine lv_aload_n hx hb dX1_add_52 rfl (lv_at hl 0 rfl) ?_
    refine lv_dup hx hb dX1_add_53 rfl ?_
    refine wk_geti (ci := 1) (k := 4) S hK hH j_X1 t0 rfl hq_1_4 (hts _ (wU_in _ m_203)) dX1_add_54 ?_
    refine lv_iconst (v := 1) hx hb dX1_add_57 (by decide) ?_
    refine lv_iadd hx hb dX1_add_58 ?_
    refine wk_puti (ci := 1) (k := 4) S hK hH j_X1 tyX1 tyX1_ok nmX1 t0 rfl hq_1_4 rfl hd_1_4 (hts _ (wU_in _ m_203)) dX1_add_59 (fun H locs hH => ?_)
    refine lv_iconst (v := 1) hx hb dX1_add_62 (by decide) ?_
    exact wk_zret S hr hlk hK hN hH rfl hf dX1_add_63
  · replace hf := ite_f c1 hf
    refine lv_iconst (v := 0) hx hb dX1_add_9 (by decide) ?_
    exact wk_zret S hr hlk hK hN hH rfl hf dX1_add_10
set_option maxHeartbeats 4000000 in
set_option maxRecDepth 100000 in
theorem C_X2_hasEnding (l : Launch) (X : Cx) (hI : Inj X) {a0 : Nat} (t0 : tY a0 = 2) (a1 : Int32) (h : Hp) (r0 : Int32) (h0 : Hp) (hf : f_X2_hasEnding a0 a1 h = some (r0, h0)) : Mi l X yX2_hasEnding cX2_hasEnding 2 (some .boolean) 0 0 h [.ref (X.2.2.2 a0), .int a1] r0 h0 := by
  refine BD_of (own := RX2) hI rfl (by decide) (Nat.le_of_ble_eq_true rfl) ?_
  intro p e s m args below meth c S hr hlk hK hN
  obtain ⟨hx, hb, hml, hown, hts⟩ := id S
  intro H locs ls hl hH
  replace hl : lv_has ls 2 [(0, .ref (X.2.2.2 a0)), (1, .int a1)] := hl
  unfold f_X2_hasEnding at hf
  refine lv_iload_n hx hb dX2_hasEnding_0 rfl (lv_at hl 1 rfl) ?_
  refine lv_if_lt (tgt := 16) hx hb dX2_hasEnding_1 (by decide) (fun c1 => ?_) (fun c1 => ?_)
  · replace hf := ite_t c1 hf
    refine lv_iconst (v := 0) hx hb dX2_hasEnding_16 (by decide) ?_
    exact wk_zret S hr hlk hK hN hH rfl hf dX2_hasEnding_17
  · replace hf := ite_f c1 hf
    refine lv_iload_n hx hb dX2_hasEnding_4 rfl (lv_at hl 1 rfl) ?_
    refine lv_aload_n hx hb dX2_hasEnding_5 rfl (lv_at hl 0 rfl) ?_
    refine wk_geti (ci := 2) (k := 3) S hK hH j_X2 t0 rfl hq_2_3 (hts _ (wU_in _ m_125)) dX2_hasEnding_6 ?_
    refine lv_icmp_ge (tgt := 16) hx hb dX2_hasEnding_9 (by decide) (fun c2 => ?_) (fun c2 => ?_)
    · replace hf := ite_t c2 hf
      refine lv_iconst (v := 0) hx hb dX2_hasEnding_16 (by decide) ?_
      exact wk_zret S hr hlk hK hN hH rfl hf dX2_hasEnding_17
    · replace hf := ite_f c2 hf
      refine lv_iconst (v := 1) hx hb dX2_hasEnding_12 (by decide) ?_
      refine lv_goto (tgt := 17) hx hb dX2_hasEnding_13 (by decide) ?_
      exact wk_zret S hr hlk hK hN hH rfl hf dX2_hasEnding_17
set_option maxHeartbeats 4000000 in
set_option maxRecDepth 100000 in
theorem C_X5_join (l : Launch) (X : Cx) (hI : Inj X) (a0 : Int32) (a1 : Int32) (h : Hp) (r0 : Int32) (h0 : Hp) (hf : f_X5_join a0 a1 h = some (r0, h0)) : Mi l X yX5_join cX5_join 2 (some .int) 0 0 h [.int a0, .int a1] r0 h0 := by
  refine BD_of (own := RX5) hI rfl (by decide) (Nat.le_of_ble_eq_true rfl) ?_
  intro p e s m args below meth c S hr hlk hK hN
  obtain ⟨hx, hb, hml, hown, hts⟩ := id S
  have B13 : ∀ (z0 : Int32) (h : Hp), g_X5_join_13 a0 a1 z0 h = some (r0, h0) → BK p l e ({ frames := 0, cells := 0, slots := 0, locals := 0 }) s m args below meth c (MQ below (cQi X r0 h0) args s 0 0 (AD X)) X 2 13 [(0, .int a0), (1, .int a1)] [.int z0] h := by
    intro z0 h hf H locs ls hl hH
    unfold g_X5_join_13 at hf
    refine lv_iload_n hx hb dX5_join_13 rfl (lv_at hl 0 rfl) ?_
    refine lv_imul hx hb dX5_join_14 ?_
    refine lv_iload_n hx hb dX5_join_15 rfl (lv_at hl 1 rfl) ?_
    refine lv_iadd hx hb dX5_join_16 ?_
    exact wk_iret S hr hlk hK hN hH hf dX5_join_17
  intro H locs ls hl hH
  replace hl : lv_has ls 2 [(0, .int a0), (1, .int a1)] := hl
  unfold f_X5_join at hf
  refine lv_iload_n hx hb dX5_join_0 rfl (lv_at hl 1 rfl) ?_
  refine lv_bipush (v := 10) hx hb dX5_join_1 (by decide) ?_
  refine lv_icmp_ge (tgt := 11) hx hb dX5_join_3 (by decide) (fun c1 => ?_) (fun c1 => ?_)
  · replace hf := ite_t c1 hf
    refine lv_bipush (v := 100) hx hb dX5_join_11 (by decide) ?_
    exact B13 _ _ hf H locs ls (lv_sub hl [0, 1] rfl) hH
  · replace hf := ite_f c1 hf
    refine lv_bipush (v := 10) hx hb dX5_join_6 (by decide) ?_
    refine lv_goto (tgt := 13) hx hb dX5_join_8 (by decide) ?_
    exact B13 _ _ hf H locs ls (lv_sub hl [0, 1] rfl) hH
set_option maxHeartbeats 4000000 in
set_option maxRecDepth 100000 in
theorem C_X4_signOf (l : Launch) (X : Cx) (hI : Inj X) {a0 : Nat} (t0 : tY a0 = 4) (a1 : Int32) (a2 : Int32) (h : Hp) (r0 : Int32) (h0 : Hp) (hf : f_X4_signOf a0 a1 a2 h = some (r0, h0)) : Mi l X yX4_signOf cX4_signOf 3 (some .int) 0 0 h [.ref (X.2.2.2 a0), .int a1, .int a2] r0 h0 := by
  refine BD_of (own := RX4) hI rfl (by decide) (Nat.le_of_ble_eq_true rfl) ?_
  intro p e s m args below meth c S hr hlk hK hN
  obtain ⟨hx, hb, hml, hown, hts⟩ := id S
  intro H locs ls hl hH
  replace hl : lv_has ls 3 [(0, .ref (X.2.2.2 a0)), (1, .int a1), (2, .int a2)] := hl
  unfold f_X4_signOf at hf
  refine lv_aload_n hx hb dX4_signOf_0 rfl (lv_at hl 0 rfl) ?_
  refine wk_getr (ci := 4) (k := 1) S hK hH j_X4 t0 rfl hq_4_1 (hts _ (wU_in _ m_144)) dX4_signOf_1 ?_
  refine lv_iload_n hx hb dX4_signOf_4 rfl (lv_at hl 1 rfl) ?_
  refine lv_iconst (v := 4) hx hb dX4_signOf_5 (by decide) ?_
  refine lv_imul hx hb dX4_signOf_6 ?_
  refine lv_iload_n hx hb dX4_signOf_7 rfl (lv_at hl 2 rfl) ?_
  refine lv_iadd hx hb dX4_signOf_8 ?_
  obtain ⟨o1, hf⟩ := ite_ok hf
  refine wk_iald S hK hH (tr_4_1 t0) o1 dX4_signOf_9 ?_
  exact wk_iret S hr hlk hK hN hH hf dX4_signOf_10
set_option maxHeartbeats 4000000 in
set_option maxRecDepth 100000 in
theorem C_X5_fits (l : Launch) (X : Cx) (hI : Inj X) (a0 : Int32) (a1 : Int32) (h : Hp) (r0 : Int32) (h0 : Hp) (hf : f_X5_fits a0 a1 h = some (r0, h0)) : Mi l X yX5_fits cX5_fits 2 (some .boolean) 0 0 h [.int a0, .int a1] r0 h0 := by
  refine BD_of (own := RX5) hI rfl (by decide) (Nat.le_of_ble_eq_true rfl) ?_
  intro p e s m args below meth c S hr hlk hK hN
  obtain ⟨hx, hb, hml, hown, hts⟩ := id S
  have B20 : ∀ (z0 : Int32) (z1 : Int32) (h : Hp), g_X5_fits_20 a0 a1 z0 z1 h = some (r0, h0) → BK p l e ({ frames := 0, cells := 0, slots := 0, locals := 0 }) s m args below meth c (MQ below (cQi X r0 h0) args s 0 0 (AD X)) X 2 20 [] [.int z1, .int z0] h := by
    intro z0 z1 h hf H locs ls hl hH
    unfold g_X5_fits_20 at hf
    refine lv_icmp_ne (tgt := 27) hx hb dX5_fits_20 (by decide) (fun c1 => ?_) (fun c1 => ?_)
    · replace hf := ite_f c1 hf
      refine lv_iconst (v := 0) hx hb dX5_fits_27 (by decide) ?_
      exact wk_zret S hr hlk hK hN hH rfl hf dX5_fits_28
    · replace hf := ite_t c1 hf
      refine lv_iconst (v := 1) hx hb dX5_fits_23 (by decide) ?_
      refine lv_goto (tgt := 28) hx hb dX5_fits_24 (by decide) ?_
      exact wk_zret S hr hlk hK hN hH rfl hf dX5_fits_28
  intro H locs ls hl hH
  replace hl : lv_has ls 2 [(0, .int a0), (1, .int a1)] := hl
  unfold f_X5_fits at hf
  refine lv_iload_n hx hb dX5_fits_0 rfl (lv_at hl 0 rfl) ?_
  refine lv_bipush (v := 6) hx hb dX5_fits_1 (by decide) ?_
  refine lv_icmp_ne (tgt := 8) hx hb dX5_fits_3 (by decide) (fun c2 => ?_) (fun c2 => ?_)
  · replace hf := ite_f c2 hf
    refine lv_iload_n hx hb dX5_fits_8 rfl (lv_at hl 1 rfl) ?_
    refine lv_iload_n hx hb dX5_fits_9 rfl (lv_at hl 0 rfl) ?_
    refine lv_bipush (v := 7) hx hb dX5_fits_10 (by decide) ?_
    refine lv_icmp_ne (tgt := 19) hx hb dX5_fits_12 (by decide) (fun c3 => ?_) (fun c3 => ?_)
    · replace hf := ite_f c3 hf
      refine lv_iload_n hx hb dX5_fits_19 rfl (lv_at hl 0 rfl) ?_
      exact B20 _ _ _ hf H locs ls (lv_sub hl [] rfl) hH
    · replace hf := ite_t c3 hf
      refine lv_iconst (v := 0) hx hb dX5_fits_15 (by decide) ?_
      refine lv_goto (tgt := 20) hx hb dX5_fits_16 (by decide) ?_
      exact B20 _ _ _ hf H locs ls (lv_sub hl [] rfl) hH
  · replace hf := ite_t c2 hf
    refine lv_iconst (v := 1) hx hb dX5_fits_6 (by decide) ?_
    exact wk_zret S hr hlk hK hN hH rfl hf dX5_fits_7
set_option maxHeartbeats 4000000 in
set_option maxRecDepth 100000 in
theorem C_X4_goOver (l : Launch) (X : Cx) (hI : Inj X) {a0 : Nat} (t0 : tY a0 = 4) (a1 : Int32) (a2 : Int32) (h : Hp) (r0 : Int32) (h0 : Hp) (hf : f_X4_goOver a0 a1 a2 h = some (r0, h0)) : Mi l X yX4_goOver cX4_goOver 12 (some .int) 1 22 h [.ref (X.2.2.2 a0), .int a1, .int a2] r0 h0 := by
  refine BD_of (own := RX4) hI rfl (by decide) (Nat.le_of_ble_eq_true rfl) ?_
  intro p e s m args below meth c S hr hlk hK hN
  obtain ⟨hx, hb, hml, hown, hts⟩ := id S
  have B132 : ∀ (k22 : Int32 → Int32 → Int32 → Int32 → Int32 → Int32 → Hp → Option (Int32 × Hp)) (hk22 : ∀ (x3 : Int32) (x4 : Int32) (x5 : Int32) (x6 : Int32) (x7 : Int32) (x8 : Int32) (h : Hp), k22 x3 x4 x5 x6 x7 x8 h = some (r0, h0) → BK p l e ({ frames := 1, cells := 0, slots := 0, locals := 22 }) s m args below meth c (MQ below (cQi X r0 h0) args s 0 0 (AD X)) X 12 22 [(0, .ref (X.2.2.2 a0)), (1, .int a1), (3, .int x3), (4, .int x4), (5, .int x5), (6, .int x6), (7, .int x7), (8, .int x8)] [] h) (x3 : Int32) (x4 : Int32) (x5 : Int32) (x7 : Int32) (x8 : Int32) (x9 : Int32) (h : Hp), g_X4_goOver_132 a0 a1 a2 k22 x3 x4 x5 x7 x8 x9 h = some (r0, h0) → BK p l e ({ frames := 1, cells := 0, slots := 0, locals := 22 }) s m args below meth c (MQ below (cQi X r0 h0) args s 0 0 (AD X)) X 12 132 [(0, .ref (X.2.2.2 a0)), (1, .int a1), (3, .int x3), (4, .int x4), (5, .int x5), (7, .int x7), (8, .int x8), (9, .int x9)] [] h := by
    intro k22 hk22 x3 x4 x5 x7 x8 x9 h hf H locs ls hl hH
    unfold g_X4_goOver_132 at hf
    refine lv_iload hx hb dX4_goOver_132 (lv_at hl 7 rfl) ?_
    refine lv_istore (lv' := [(6, .int x9), (0, .ref (X.2.2.2 a0)), (1, .int a1), (3, .int x3), (4, .int x4), (5, .int x5), (7, .int x7), (8, .int x8), (9, .int x9)]) hx hb dX4_goOver_134 hl (by decide) rfl (fun ls hl => ?_)
    refine lv_iinc (v := (x8 + (1 : Int32))) (lv' := [(8, .int ((x8 + (1 : Int32)))), (6, .int x9), (0, .ref (X.2.2.2 a0)), (1, .int a1), (3, .int x3), (4, .int x4), (5, .int x5), (7, .int x7), (9, .int x9)]) hx hb dX4_goOver_136 hl (k := 7) rfl rfl (by decide) rfl (fun ls hl => ?_)
    refine lv_goto (tgt := 22) hx hb dX4_goOver_139 (by decide) ?_
    exact hk22 _ _ _ _ _ _ _ hf H locs ls (lv_sub hl [2, 3, 4, 5, 6, 1, 7, 0] rfl) hH
  have B108 : ∀ (k22 : Int32 → Int32 → Int32 → Int32 → Int32 → Int32 → Hp → Option (Int32 × Hp)) (hk22 : ∀ (x3 : Int32) (x4 : Int32) (x5 : Int32) (x6 : Int32) (x7 : Int32) (x8 : Int32) (h : Hp), k22 x3 x4 x5 x6 x7 x8 h = some (r0, h0) → BK p l e ({ frames := 1, cells := 0, slots := 0, locals := 22 }) s m args below meth c (MQ below (cQi X r0 h0) args s 0 0 (AD X)) X 12 22 [(0, .ref (X.2.2.2 a0)), (1, .int a1), (3, .int x3), (4, .int x4), (5, .int x5), (6, .int x6), (7, .int x7), (8, .int x8)] [] h) (x3 : Int32) (x4 : Int32) (x5 : Int32) (x7 : Int32) (x8 : Int32) (x9 : Int32) (z0 : Int32) (h : Hp), g_X4_goOver_108 a0 a1 a2 k22 x3 x4 x5 x7 x8 x9 z0 h = some (r0, h0) → BK p l e ({ frames := 1, cells := 0, slots := 0, locals := 22 }) s m args below meth c (MQ below (cQi X r0 h0) args s 0 0 (AD X)) X 12 108 [(0, .ref (X.2.2.2 a0)), (1, .int a1), (3, .int x3), (4, .int x4), (5, .int x5), (7, .int x7), (8, .int x8), (9, .int x9)] [.int z0] h := by
    intro k22 hk22 x3 x4 x5 x7 x8 x9 z0 h hf H locs ls hl hH
    unfold g_X4_goOver_108 at hf
    refine lv_istore (lv' := [(11, .int z0), (0, .ref (X.2.2.2 a0)), (1, .int a1), (3, .int x3), (4, .int x4), (5, .int x5), (7, .int x7), (8, .int x8), (9, .int x9)]) hx hb dX4_goOver_108 hl (by decide) rfl (fun ls hl => ?_)
    refine lv_iload hx hb dX4_goOver_110 (lv_at hl 0 rfl) ?_
    refine lv_if_eq (tgt := 132) hx hb dX4_goOver_112 (by decide) (fun c1 => ?_) (fun c1 => ?_)
    · replace hf := ite_t c1 hf
      exact B132 k22 hk22 _ _ _ _ _ _ _ hf H locs ls (lv_sub hl [1, 2, 3, 4, 5, 6, 7, 8] rfl) hH
    · replace hf := ite_f c1 hf
      refine lv_iload hx hb dX4_goOver_115 (lv_at hl 4 rfl) ?_
      refine lv_iload hx hb dX4_goOver_117 (lv_at hl 0 rfl) ?_
      refine lv_iload hx hb dX4_goOver_119 (lv_at hl 5 rfl) ?_
      refine lv_imul hx hb dX4_goOver_121 ?_
      refine lv_iadd hx hb dX4_goOver_122 ?_
      refine lv_istore (lv' := [(4, .int ((x4 + (z0 * x5)))), (11, .int z0), (0, .ref (X.2.2.2 a0)), (1, .int a1), (3, .int x3), (5, .int x5), (7, .int x7), (8, .int x8), (9, .int x9)]) hx hb dX4_goOver_123 hl (by decide) rfl (fun ls hl => ?_)
      refine lv_iload hx hb dX4_goOver_125 (lv_at hl 5 rfl) ?_
      refine lv_bipush (v := 10) hx hb dX4_goOver_127 (by decide) ?_
      refine lv_imul hx hb dX4_goOver_129 ?_
      refine lv_istore (lv' := [(5, .int ((x5 * (10 : Int32)))), (4, .int ((x4 + (z0 * x5)))), (11, .int z0), (0, .ref (X.2.2.2 a0)), (1, .int a1), (3, .int x3), (7, .int x7), (8, .int x8), (9, .int x9)]) hx hb dX4_goOver_130 hl (by decide) rfl (fun ls hl => ?_)
      exact B132 k22 hk22 _ _ _ _ _ _ _ hf H locs ls (lv_sub hl [3, 4, 5, 1, 0, 6, 7, 8] rfl) hH
  have B90 : ∀ (k22 : Int32 → Int32 → Int32 → Int32 → Int32 → Int32 → Hp → Option (Int32 × Hp)) (hk22 : ∀ (x3 : Int32) (x4 : Int32) (x5 : Int32) (x6 : Int32) (x7 : Int32) (x8 : Int32) (h : Hp), k22 x3 x4 x5 x6 x7 x8 h = some (r0, h0) → BK p l e ({ frames := 1, cells := 0, slots := 0, locals := 22 }) s m args below meth c (MQ below (cQi X r0 h0) args s 0 0 (AD X)) X 12 22 [(0, .ref (X.2.2.2 a0)), (1, .int a1), (3, .int x3), (4, .int x4), (5, .int x5), (6, .int x6), (7, .int x7), (8, .int x8)] [] h) (x3 : Int32) (x4 : Int32) (x5 : Int32) (x7 : Int32) (x8 : Int32) (x9 : Int32) (z0 : Int32) (h : Hp), g_X4_goOver_90 a0 a1 a2 k22 x3 x4 x5 x7 x8 x9 z0 h = some (r0, h0) → BK p l e ({ frames := 1, cells := 0, slots := 0, locals := 22 }) s m args below meth c (MQ below (cQi X r0 h0) args s 0 0 (AD X)) X 12 90 [(0, .ref (X.2.2.2 a0)), (1, .int a1), (3, .int x3), (4, .int x4), (5, .int x5), (7, .int x7), (8, .int x8), (9, .int x9)] [.int z0] h := by
    intro k22 hk22 x3 x4 x5 x7 x8 x9 z0 h hf H locs ls hl hH
    unfold g_X4_goOver_90 at hf
    refine lv_istore (lv' := [(10, .int z0), (0, .ref (X.2.2.2 a0)), (1, .int a1), (3, .int x3), (4, .int x4), (5, .int x5), (7, .int x7), (8, .int x8), (9, .int x9)]) hx hb dX4_goOver_90 hl (by decide) rfl (fun ls hl => ?_)
    refine lv_iload hx hb dX4_goOver_92 (lv_at hl 0 rfl) ?_
    refine lv_if_eq (tgt := 106) hx hb dX4_goOver_94 (by decide) (fun c2 => ?_) (fun c2 => ?_)
    · replace hf := ite_t c2 hf
      refine lv_iload hx hb dX4_goOver_106 (lv_at hl 8 rfl) ?_
      exact B108 k22 hk22 _ _ _ _ _ _ _ _ hf H locs ls (lv_sub hl [1, 2, 3, 4, 5, 6, 7, 8] rfl) hH
    · replace hf := ite_f c2 hf
      refine lv_aload_n hx hb dX4_goOver_97 rfl (lv_at hl 1 rfl) ?_
      refine lv_iload_n hx hb dX4_goOver_98 rfl (lv_at hl 2 rfl) ?_
      refine lv_iconst (v := 1) hx hb dX4_goOver_99 (by decide) ?_
      obtain ⟨r5, h4, hq3, hf⟩ := bnd_ok hf
      refine wk_callVi (ci := 4) (b := a0) (As := [.int a1, .int ((1 : Int32))]) (rest := []) S hK hN hH t0 (by decide) rfl (C_X4_signOf l X hI t0 a1 (1 : Int32) _ _ _ hq3) (cwV 2 hts (gV wU_in m_348 m_349 m_350 m_38 m_351) rfl rfl rfl hdV_X4_signOf ⟨Nat.le_of_ble_eq_true rfl, Nat.le_of_ble_eq_true rfl⟩) hl.1 rfl rfl (Nat.le_of_ble_eq_true rfl) dX4_goOver_100 ⟨Nat.zero_le _, Nat.zero_le _⟩ (fun H locs hH => ?_)
      refine lv_goto (tgt := 108) hx hb dX4_goOver_103 (by decide) ?_
      exact B108 k22 hk22 _ _ _ _ _ _ _ _ hf H locs ls (lv_sub hl [1, 2, 3, 4, 5, 6, 7, 8] rfl) hH
  have B89 : ∀ (k22 : Int32 → Int32 → Int32 → Int32 → Int32 → Int32 → Hp → Option (Int32 × Hp)) (hk22 : ∀ (x3 : Int32) (x4 : Int32) (x5 : Int32) (x6 : Int32) (x7 : Int32) (x8 : Int32) (h : Hp), k22 x3 x4 x5 x6 x7 x8 h = some (r0, h0) → BK p l e ({ frames := 1, cells := 0, slots := 0, locals := 22 }) s m args below meth c (MQ below (cQi X r0 h0) args s 0 0 (AD X)) X 12 22 [(0, .ref (X.2.2.2 a0)), (1, .int a1), (3, .int x3), (4, .int x4), (5, .int x5), (6, .int x6), (7, .int x7), (8, .int x8)] [] h) (x3 : Int32) (x4 : Int32) (x5 : Int32) (x7 : Int32) (x8 : Int32) (x9 : Int32) (h : Hp), g_X4_goOver_89 a0 a1 a2 k22 x3 x4 x5 x7 x8 x9 h = some (r0, h0) → BK p l e ({ frames := 1, cells := 0, slots := 0, locals := 22 }) s m args below meth c (MQ below (cQi X r0 h0) args s 0 0 (AD X)) X 12 89 [(0, .ref (X.2.2.2 a0)), (1, .int a1), (3, .int x3), (4, .int x4), (5, .int x5), (7, .int x7), (8, .int x8), (9, .int x9)] [] h := by
    intro k22 hk22 x3 x4 x5 x7 x8 x9 h hf H locs ls hl hH
    unfold g_X4_goOver_89 at hf
    refine lv_iconst (v := 0) hx hb dX4_goOver_89 (by decide) ?_
    exact B90 k22 hk22 _ _ _ _ _ _ _ _ hf H locs ls (lv_sub hl [0, 1, 2, 3, 4, 5, 6, 7] rfl) hH
  have B22 : ∀ (k22 : Int32 → Int32 → Int32 → Int32 → Int32 → Int32 → Hp → Option (Int32 × Hp)) (hk22 : ∀ (x3 : Int32) (x4 : Int32) (x5 : Int32) (x6 : Int32) (x7 : Int32) (x8 : Int32) (h : Hp), k22 x3 x4 x5 x6 x7 x8 h = some (r0, h0) → BK p l e ({ frames := 1, cells := 0, slots := 0, locals := 22 }) s m args below meth c (MQ below (cQi X r0 h0) args s 0 0 (AD X)) X 12 22 [(0, .ref (X.2.2.2 a0)), (1, .int a1), (3, .int x3), (4, .int x4), (5, .int x5), (6, .int x6), (7, .int x7), (8, .int x8)] [] h) (x3 : Int32) (x4 : Int32) (x5 : Int32) (x6 : Int32) (x7 : Int32) (x8 : Int32) (h : Hp), g_X4_goOver_22 a0 a1 a2 k22 x3 x4 x5 x6 x7 x8 h = some (r0, h0) → BK p l e ({ frames := 1, cells := 0, slots := 0, locals := 22 }) s m args below meth c (MQ below (cQi X r0 h0) args s 0 0 (AD X)) X 12 22 [(0, .ref (X.2.2.2 a0)), (1, .int a1), (3, .int x3), (4, .int x4), (5, .int x5), (6, .int x6), (7, .int x7), (8, .int x8)] [] h := by
    intro k22 hk22 x3 x4 x5 x6 x7 x8 h hf H locs ls hl hH
    unfold g_X4_goOver_22 at hf
    refine lv_iload hx hb dX4_goOver_22 (lv_at hl 7 rfl) ?_
    refine lv_bipush (v := 6) hx hb dX4_goOver_24 (by decide) ?_
    refine lv_icmp_ge (tgt := 142) hx hb dX4_goOver_26 (by decide) (fun c6 => ?_) (fun c6 => ?_)
    · replace hf := ite_t c6 hf
      refine lv_iload hx hb dX4_goOver_142 (lv_at hl 3 rfl) ?_
      exact wk_iret S hr hlk hK hN hH hf dX4_goOver_144
    · replace hf := ite_f c6 hf
      refine lv_iload hx hb dX4_goOver_29 (lv_at hl 6 rfl) ?_
      refine lv_if_le (tgt := 142) hx hb dX4_goOver_31 (by decide) (fun c7 => ?_) (fun c7 => ?_)
      · replace hf := ite_t c7 hf
        refine lv_iload hx hb dX4_goOver_142 (lv_at hl 3 rfl) ?_
        exact wk_iret S hr hlk hK hN hH hf dX4_goOver_144
      · replace hf := ite_f c7 hf
        refine lv_iload hx hb dX4_goOver_34 (lv_at hl 6 rfl) ?_
        refine lv_bipush (v := 10) hx hb dX4_goOver_36 (by decide) ?_
        refine lv_irem hx hb dX4_goOver_38 (by decide) ?_
        refine lv_istore (lv' := [(9, .int ((x7 - x7 / (10 : Int32) * (10 : Int32)))), (0, .ref (X.2.2.2 a0)), (1, .int a1), (3, .int x3), (4, .int x4), (5, .int x5), (6, .int x6), (7, .int x7), (8, .int x8)]) hx hb dX4_goOver_39 hl (by decide) rfl (fun ls hl => ?_)
        refine lv_iload hx hb dX4_goOver_41 (lv_at hl 7 rfl) ?_
        refine lv_bipush (v := 10) hx hb dX4_goOver_43 (by decide) ?_
        refine lv_idiv hx hb dX4_goOver_45 (by decide) ?_
        refine lv_istore (lv' := [(7, .int ((x7 / (10 : Int32)))), (9, .int ((x7 - x7 / (10 : Int32) * (10 : Int32)))), (0, .ref (X.2.2.2 a0)), (1, .int a1), (3, .int x3), (4, .int x4), (5, .int x5), (6, .int x6), (8, .int x8)]) hx hb dX4_goOver_46 hl (by decide) rfl (fun ls hl => ?_)
        refine lv_iload hx hb dX4_goOver_48 (lv_at hl 1 rfl) ?_
        refine lv_iload_n hx hb dX4_goOver_50 rfl (lv_at hl 4 rfl) ?_
        refine lv_icmp_ne (tgt := 89) hx hb dX4_goOver_51 (by decide) (fun c8 => ?_) (fun c8 => ?_)
        · replace hf := ite_f c8 hf
          exact B89 k22 hk22 _ _ _ _ _ _ _ hf H locs ls (lv_sub hl [2, 3, 4, 5, 6, 0, 8, 1] rfl) hH
        · replace hf := ite_t c8 hf
          refine lv_aload_n hx hb dX4_goOver_54 rfl (lv_at hl 2 rfl) ?_
          refine lv_iload_n hx hb dX4_goOver_55 rfl (lv_at hl 3 rfl) ?_
          refine lv_iconst (v := 2) hx hb dX4_goOver_56 (by decide) ?_
          obtain ⟨r11, h10, hq9, hf⟩ := bnd_ok hf
          refine wk_callVi (ci := 4) (b := a0) (As := [.int a1, .int ((2 : Int32))]) (rest := []) S hK hN hH t0 (by decide) rfl (C_X4_signOf l X hI t0 a1 (2 : Int32) _ _ _ hq9) (cwV 2 hts (gV wU_in m_348 m_349 m_350 m_38 m_351) rfl rfl rfl hdV_X4_signOf ⟨Nat.le_of_ble_eq_true rfl, Nat.le_of_ble_eq_true rfl⟩) hl.1 rfl rfl (Nat.le_of_ble_eq_true rfl) dX4_goOver_57 ⟨Nat.zero_le _, Nat.zero_le _⟩ (fun H locs hH => ?_)
          refine lv_iload hx hb dX4_goOver_60 (lv_at hl 0 rfl) ?_
          refine lv_bipush (v := 10) hx hb dX4_goOver_62 (by decide) ?_
          refine lv_irem hx hb dX4_goOver_64 (by decide) ?_
          obtain ⟨r14, h13, hq12, hf⟩ := bnd_ok hf
          refine wk_callSi (As := [.int r11, .int (((x7 / (10 : Int32)) - (x7 / (10 : Int32)) / (10 : Int32) * (10 : Int32)))]) (rest := []) S hK hN hH (C_X5_fits l X hI r11 ((x7 / (10 : Int32)) - (x7 / (10 : Int32)) / (10 : Int32) * (10 : Int32)) _ _ _ hq12) (va_cwS 2 hts (gS wU_in m_352 m_353 m_43 m_354) rfl rfl rfl hdS_X5_fits ⟨Nat.le_of_ble_eq_true rfl, Nat.le_of_ble_eq_true rfl⟩) hl.1 rfl rfl (Nat.le_of_ble_eq_true rfl) dX4_goOver_65 ⟨Nat.zero_le _, Nat.zero_le _⟩ (fun H locs hH => ?_)
          refine lv_if_eq (tgt := 89) hx hb dX4_goOver_68 (by decide) (fun c15 => ?_) (fun c15 => ?_)
          · replace hf := ite_t c15 hf
            exact B89 k22 hk22 _ _ _ _ _ _ _ hf H locs ls (lv_sub hl [2, 3, 4, 5, 6, 0, 8, 1] rfl) hH
          · replace hf := ite_f c15 hf
            refine lv_aload_n hx hb dX4_goOver_71 rfl (lv_at hl 2 rfl) ?_
            refine lv_iload_n hx hb dX4_goOver_72 rfl (lv_at hl 3 rfl) ?_
            refine lv_iconst (v := 3) hx hb dX4_goOver_73 (by decide) ?_
            obtain ⟨r18, h17, hq16, hf⟩ := bnd_ok hf
            refine wk_callVi (ci := 4) (b := a0) (As := [.int a1, .int ((3 : Int32))]) (rest := []) S hK hN hH t0 (by decide) rfl (C_X4_signOf l X hI t0 a1 (3 : Int32) _ _ _ hq16) (cwV 2 hts (gV wU_in m_348 m_349 m_350 m_38 m_351) rfl rfl rfl hdV_X4_signOf ⟨Nat.le_of_ble_eq_true rfl, Nat.le_of_ble_eq_true rfl⟩) hl.1 rfl rfl (Nat.le_of_ble_eq_true rfl) dX4_goOver_74 ⟨Nat.zero_le _, Nat.zero_le _⟩ (fun H locs hH => ?_)
            refine lv_iload hx hb dX4_goOver_77 (lv_at hl 7 rfl) ?_
            obtain ⟨r21, h20, hq19, hf⟩ := bnd_ok hf
            refine wk_callSi (As := [.int r18, .int x6]) (rest := []) S hK hN hH (C_X5_fits l X hI r18 x6 _ _ _ hq19) (va_cwS 2 hts (gS wU_in m_352 m_353 m_43 m_354) rfl rfl rfl hdS_X5_fits ⟨Nat.le_of_ble_eq_true rfl, Nat.le_of_ble_eq_true rfl⟩) hl.1 rfl rfl (Nat.le_of_ble_eq_true rfl) dX4_goOver_79 ⟨Nat.zero_le _, Nat.zero_le _⟩ (fun H locs hH => ?_)
            refine lv_if_eq (tgt := 89) hx hb dX4_goOver_82 (by decide) (fun c22 => ?_) (fun c22 => ?_)
            · replace hf := ite_t c22 hf
              exact B89 k22 hk22 _ _ _ _ _ _ _ hf H locs ls (lv_sub hl [2, 3, 4, 5, 6, 0, 8, 1] rfl) hH
            · replace hf := ite_f c22 hf
              refine lv_iconst (v := 1) hx hb dX4_goOver_85 (by decide) ?_
              refine lv_goto (tgt := 90) hx hb dX4_goOver_86 (by decide) ?_
              exact B90 k22 hk22 _ _ _ _ _ _ _ _ hf H locs ls (lv_sub hl [2, 3, 4, 5, 6, 0, 8, 1] rfl) hH
  have BL22 : ∀ (n : Nat) (x3 : Int32) (x4 : Int32) (x5 : Int32) (x6 : Int32) (x7 : Int32) (x8 : Int32) (h : Hp), f_X4_goOver_22 a0 a1 a2 n x3 x4 x5 x6 x7 x8 h = some (r0, h0) → BK p l e ({ frames := 1, cells := 0, slots := 0, locals := 22 }) s m args below meth c (MQ below (cQi X r0 h0) args s 0 0 (AD X)) X 12 22 [(0, .ref (X.2.2.2 a0)), (1, .int a1), (3, .int x3), (4, .int x4), (5, .int x5), (6, .int x6), (7, .int x7), (8, .int x8)] [] h := by
    intro n
    induction n with
    | zero => intro x3 x4 x5 x6 x7 x8 h hf; cases hf
    | succ n ih => intro x3 x4 x5 x6 x7 x8 h hf; exact B22 _ ih _ _ _ _ _ _ _ hf
  intro H locs ls hl hH
  replace hl : lv_has ls 12 [(0, .ref (X.2.2.2 a0)), (1, .int a1), (2, .int a2)] := hl
  unfold f_X4_goOver at hf
  refine lv_aload_n hx hb dX4_goOver_0 rfl (lv_at hl 0 rfl) ?_
  refine lv_iload_n hx hb dX4_goOver_1 rfl (lv_at hl 1 rfl) ?_
  refine lv_iconst (v := 0) hx hb dX4_goOver_2 (by decide) ?_
  obtain ⟨r25, h24, hq23, hf⟩ := bnd_ok hf
  refine wk_callVi (ci := 4) (b := a0) (As := [.int a1, .int ((0 : Int32))]) (rest := []) S hK hN hH t0 (by decide) rfl (C_X4_signOf l X hI t0 a1 (0 : Int32) _ _ _ hq23) (cwV 2 hts (gV wU_in m_348 m_349 m_350 m_38 m_351) rfl rfl rfl hdV_X4_signOf ⟨Nat.le_of_ble_eq_true rfl, Nat.le_of_ble_eq_true rfl⟩) hl.1 rfl rfl (Nat.le_of_ble_eq_true rfl) dX4_goOver_3 ⟨Nat.zero_le _, Nat.zero_le _⟩ (fun H locs hH => ?_)
  refine lv_istore_n (lv' := [(3, .int r25), (0, .ref (X.2.2.2 a0)), (1, .int a1), (2, .int a2)]) hx hb dX4_goOver_6 rfl hl (by decide) rfl (fun ls hl => ?_)
  refine lv_iconst (v := 0) hx hb dX4_goOver_7 (by decide) ?_
  refine lv_istore (lv' := [(4, .int ((0 : Int32))), (3, .int r25), (0, .ref (X.2.2.2 a0)), (1, .int a1), (2, .int a2)]) hx hb dX4_goOver_8 hl (by decide) rfl (fun ls hl => ?_)
  refine lv_iconst (v := 1) hx hb dX4_goOver_10 (by decide) ?_
  refine lv_istore (lv' := [(5, .int ((1 : Int32))), (4, .int ((0 : Int32))), (3, .int r25), (0, .ref (X.2.2.2 a0)), (1, .int a1), (2, .int a2)]) hx hb dX4_goOver_11 hl (by decide) rfl (fun ls hl => ?_)
  refine lv_iconst (v := 0) hx hb dX4_goOver_13 (by decide) ?_
  refine lv_istore (lv' := [(6, .int ((0 : Int32))), (5, .int ((1 : Int32))), (4, .int ((0 : Int32))), (3, .int r25), (0, .ref (X.2.2.2 a0)), (1, .int a1), (2, .int a2)]) hx hb dX4_goOver_14 hl (by decide) rfl (fun ls hl => ?_)
  refine lv_iload_n hx hb dX4_goOver_16 rfl (lv_at hl 6 rfl) ?_
  refine lv_istore (lv' := [(7, .int a2), (6, .int ((0 : Int32))), (5, .int ((1 : Int32))), (4, .int ((0 : Int32))), (3, .int r25), (0, .ref (X.2.2.2 a0)), (1, .int a1), (2, .int a2)]) hx hb dX4_goOver_17 hl (by decide) rfl (fun ls hl => ?_)
  refine lv_iconst (v := 0) hx hb dX4_goOver_19 (by decide) ?_
  refine lv_istore (lv' := [(8, .int ((0 : Int32))), (7, .int a2), (6, .int ((0 : Int32))), (5, .int ((1 : Int32))), (4, .int ((0 : Int32))), (3, .int r25), (0, .ref (X.2.2.2 a0)), (1, .int a1), (2, .int a2)]) hx hb dX4_goOver_20 hl (by decide) rfl (fun ls hl => ?_)
  exact BL22 FU _ _ _ _ _ _ _ hf H locs ls (lv_sub hl [6, 7, 5, 4, 3, 2, 1, 0] rfl) hH
set_option maxHeartbeats 4000000 in
set_option maxRecDepth 100000 in
theorem C_X4_walk (l : Launch) (X : Cx) (hI : Inj X) {a0 : Nat} (t0 : tY a0 = 4) (a1 : Int32) (a2 : Int32) (h : Hp) (r0 : Int32) (h0 : Hp) (hf : f_X4_walk a0 a1 a2 h = some (r0, h0)) : Mi l X yX4_walk cX4_walk 5 (some .int) 2 53 h [.ref (X.2.2.2 a0), .int a1, .int a2] r0 h0 := by
  refine BD_of (own := RX4) hI rfl (by decide) (Nat.le_of_ble_eq_true rfl) ?_
  intro p e s m args below meth c S hr hlk hK hN
  obtain ⟨hx, hb, hml, hown, hts⟩ := id S
  have B5 : ∀ (k5 : Int32 → Int32 → Hp → Option (Int32 × Hp)) (hk5 : ∀ (x3 : Int32) (x4 : Int32) (h : Hp), k5 x3 x4 h = some (r0, h0) → BK p l e ({ frames := 2, cells := 0, slots := 0, locals := 53 }) s m args below meth c (MQ below (cQi X r0 h0) args s 0 0 (AD X)) X 5 5 [(0, .ref (X.2.2.2 a0)), (2, .int a2), (3, .int x3), (4, .int x4)] [] h) (x3 : Int32) (x4 : Int32) (h : Hp), g_X4_walk_5 a0 a1 a2 k5 x3 x4 h = some (r0, h0) → BK p l e ({ frames := 2, cells := 0, slots := 0, locals := 53 }) s m args below meth c (MQ below (cQi X r0 h0) args s 0 0 (AD X)) X 5 5 [(0, .ref (X.2.2.2 a0)), (2, .int a2), (3, .int x3), (4, .int x4)] [] h := by
    intro k5 hk5 x3 x4 h hf H locs ls hl hH
    unfold g_X4_walk_5 at hf
    refine lv_iload hx hb dX4_walk_5 (lv_at hl 3 rfl) ?_
    refine lv_iload_n hx hb dX4_walk_7 rfl (lv_at hl 1 rfl) ?_
    refine lv_icmp_ge (tgt := 30) hx hb dX4_walk_8 (by decide) (fun c1 => ?_) (fun c1 => ?_)
    · replace hf := ite_t c1 hf
      refine lv_iload_n hx hb dX4_walk_30 rfl (lv_at hl 2 rfl) ?_
      exact wk_iret S hr hlk hK hN hH hf dX4_walk_31
    · replace hf := ite_f c1 hf
      refine lv_aload_n hx hb dX4_walk_11 rfl (lv_at hl 0 rfl) ?_
      refine lv_aload_n hx hb dX4_walk_12 rfl (lv_at hl 0 rfl) ?_
      refine wk_getr (ci := 4) (k := 2) S hK hH j_X4 t0 rfl hq_4_2 (hts _ (wU_in _ m_145)) dX4_walk_13 ?_
      refine lv_iload hx hb dX4_walk_16 (lv_at hl 3 rfl) ?_
      obtain ⟨o2, hf⟩ := ite_ok hf
      refine wk_iald S hK hH (tr_4_2 t0) o2 dX4_walk_18 ?_
      refine lv_iload_n hx hb dX4_walk_19 rfl (lv_at hl 2 rfl) ?_
      obtain ⟨r5, h4, hq3, hf⟩ := bnd_ok hf
      refine wk_callVi (ci := 4) (b := a0) (As := [.int ((h.1 (rF a0 2) (x4).toNatClampNeg)), .int x3]) (rest := []) S hK hN hH t0 (by decide) rfl (C_X4_goOver l X hI t0 (h.1 (rF a0 2) (x4).toNatClampNeg) x3 _ _ _ hq3) (cwV 2 hts (gV wU_in m_344 m_345 m_346 m_38 m_347) rfl rfl rfl hdV_X4_goOver ⟨Nat.le_of_ble_eq_true rfl, Nat.le_of_ble_eq_true rfl⟩) hl.1 rfl rfl (Nat.le_of_ble_eq_true rfl) dX4_walk_20 ⟨Nat.zero_le _, Nat.zero_le _⟩ (fun H locs hH => ?_)
      refine lv_istore_n (lv' := [(3, .int r5), (0, .ref (X.2.2.2 a0)), (2, .int a2), (4, .int x4)]) hx hb dX4_walk_23 rfl hl (by decide) rfl (fun ls hl => ?_)
      refine lv_iinc (v := (x4 + (1 : Int32))) (lv' := [(4, .int ((x4 + (1 : Int32)))), (3, .int r5), (0, .ref (X.2.2.2 a0)), (2, .int a2)]) hx hb dX4_walk_24 hl (k := 3) rfl rfl (by decide) rfl (fun ls hl => ?_)
      refine lv_goto (tgt := 5) hx hb dX4_walk_27 (by decide) ?_
      exact hk5 _ _ _ hf H locs ls (lv_sub hl [2, 3, 1, 0] rfl) hH
  have BL5 : ∀ (n : Nat) (x3 : Int32) (x4 : Int32) (h : Hp), f_X4_walk_5 a0 a1 a2 n x3 x4 h = some (r0, h0) → BK p l e ({ frames := 2, cells := 0, slots := 0, locals := 53 }) s m args below meth c (MQ below (cQi X r0 h0) args s 0 0 (AD X)) X 5 5 [(0, .ref (X.2.2.2 a0)), (2, .int a2), (3, .int x3), (4, .int x4)] [] h := by
    intro n
    induction n with
    | zero => intro x3 x4 h hf; cases hf
    | succ n ih => intro x3 x4 h hf; exact B5 _ ih _ _ _ hf
  intro H locs ls hl hH
  replace hl : lv_has ls 5 [(0, .ref (X.2.2.2 a0)), (1, .int a1), (2, .int a2)] := hl
  unfold f_X4_walk at hf
  refine lv_iload_n hx hb dX4_walk_0 rfl (lv_at hl 1 rfl) ?_
  refine lv_istore_n (lv' := [(3, .int a1), (0, .ref (X.2.2.2 a0)), (1, .int a1), (2, .int a2)]) hx hb dX4_walk_1 rfl hl (by decide) rfl (fun ls hl => ?_)
  refine lv_iconst (v := 0) hx hb dX4_walk_2 (by decide) ?_
  refine lv_istore (lv' := [(4, .int ((0 : Int32))), (3, .int a1), (0, .ref (X.2.2.2 a0)), (1, .int a1), (2, .int a2)]) hx hb dX4_walk_3 hl (by decide) rfl (fun ls hl => ?_)
  exact BL5 FU _ _ _ hf H locs ls (lv_sub hl [2, 4, 1, 0] rfl) hH
set_option maxHeartbeats 4000000 in
set_option maxRecDepth 100000 in
theorem C_X5_lengthOf (l : Launch) (X : Cx) (hI : Inj X) (a0 : Int32) (h : Hp) (r0 : Int32) (h0 : Hp) (hf : f_X5_lengthOf a0 h = some (r0, h0)) : Mi l X yX5_lengthOf cX5_lengthOf 4 (some .int) 0 0 h [.int a0] r0 h0 := by
  refine BD_of (own := RX5) hI rfl (by decide) (Nat.le_of_ble_eq_true rfl) ?_
  intro p e s m args below meth c S hr hlk hK hN
  obtain ⟨hx, hb, hml, hown, hts⟩ := id S
  have B6 : ∀ (k6 : Int32 → Int32 → Int32 → Hp → Option (Int32 × Hp)) (hk6 : ∀ (x1 : Int32) (x2 : Int32) (x3 : Int32) (h : Hp), k6 x1 x2 x3 h = some (r0, h0) → BK p l e ({ frames := 0, cells := 0, slots := 0, locals := 0 }) s m args below meth c (MQ below (cQi X r0 h0) args s 0 0 (AD X)) X 4 6 [(1, .int x1), (2, .int x2), (3, .int x3)] [] h) (x1 : Int32) (x2 : Int32) (x3 : Int32) (h : Hp), g_X5_lengthOf_6 a0 k6 x1 x2 x3 h = some (r0, h0) → BK p l e ({ frames := 0, cells := 0, slots := 0, locals := 0 }) s m args below meth c (MQ below (cQi X r0 h0) args s 0 0 (AD X)) X 4 6 [(1, .int x1), (2, .int x2), (3, .int x3)] [] h := by
    intro k6 hk6 x1 x2 x3 h hf H locs ls hl hH
    unfold g_X5_lengthOf_6 at hf
    refine lv_iload_n hx hb dX5_lengthOf_6 rfl (lv_at hl 2 rfl) ?_
    refine lv_bipush (v := 6) hx hb dX5_lengthOf_7 (by decide) ?_
    refine lv_icmp_ge (tgt := 30) hx hb dX5_lengthOf_9 (by decide) (fun c1 => ?_) (fun c1 => ?_)
    · replace hf := ite_t c1 hf
      refine lv_iload_n hx hb dX5_lengthOf_30 rfl (lv_at hl 0 rfl) ?_
      exact wk_iret S hr hlk hK hN hH hf dX5_lengthOf_31
    · replace hf := ite_f c1 hf
      refine lv_iload_n hx hb dX5_lengthOf_12 rfl (lv_at hl 1 rfl) ?_
      refine lv_if_le (tgt := 30) hx hb dX5_lengthOf_13 (by decide) (fun c2 => ?_) (fun c2 => ?_)
      · replace hf := ite_t c2 hf
        refine lv_iload_n hx hb dX5_lengthOf_30 rfl (lv_at hl 0 rfl) ?_
        exact wk_iret S hr hlk hK hN hH hf dX5_lengthOf_31
      · replace hf := ite_f c2 hf
        refine lv_iload_n hx hb dX5_lengthOf_16 rfl (lv_at hl 1 rfl) ?_
        refine lv_bipush (v := 10) hx hb dX5_lengthOf_17 (by decide) ?_
        refine lv_idiv hx hb dX5_lengthOf_19 (by decide) ?_
        refine lv_istore_n (lv' := [(2, .int ((x2 / (10 : Int32)))), (1, .int x1), (3, .int x3)]) hx hb dX5_lengthOf_20 rfl hl (by decide) rfl (fun ls hl => ?_)
        refine lv_iinc (v := (x1 + (1 : Int32))) (lv' := [(1, .int ((x1 + (1 : Int32)))), (2, .int ((x2 / (10 : Int32)))), (3, .int x3)]) hx hb dX5_lengthOf_21 hl (k := 1) rfl rfl (by decide) rfl (fun ls hl => ?_)
        refine lv_iinc (v := (x3 + (1 : Int32))) (lv' := [(3, .int ((x3 + (1 : Int32)))), (1, .int ((x1 + (1 : Int32)))), (2, .int ((x2 / (10 : Int32))))]) hx hb dX5_lengthOf_24 hl (k := 2) rfl rfl (by decide) rfl (fun ls hl => ?_)
        refine lv_goto (tgt := 6) hx hb dX5_lengthOf_27 (by decide) ?_
        exact hk6 _ _ _ _ hf H locs ls (lv_sub hl [1, 2, 0] rfl) hH
  have BL6 : ∀ (n : Nat) (x1 : Int32) (x2 : Int32) (x3 : Int32) (h : Hp), f_X5_lengthOf_6 a0 n x1 x2 x3 h = some (r0, h0) → BK p l e ({ frames := 0, cells := 0, slots := 0, locals := 0 }) s m args below meth c (MQ below (cQi X r0 h0) args s 0 0 (AD X)) X 4 6 [(1, .int x1), (2, .int x2), (3, .int x3)] [] h := by
    intro n
    induction n with
    | zero => intro x1 x2 x3 h hf; cases hf
    | succ n ih => intro x1 x2 x3 h hf; exact B6 _ ih _ _ _ _ hf
  intro H locs ls hl hH
  replace hl : lv_has ls 4 [(0, .int a0)] := hl
  unfold f_X5_lengthOf at hf
  refine lv_iconst (v := 0) hx hb dX5_lengthOf_0 (by decide) ?_
  refine lv_istore_n (lv' := [(1, .int ((0 : Int32))), (0, .int a0)]) hx hb dX5_lengthOf_1 rfl hl (by decide) rfl (fun ls hl => ?_)
  refine lv_iload_n hx hb dX5_lengthOf_2 rfl (lv_at hl 1 rfl) ?_
  refine lv_istore_n (lv' := [(2, .int a0), (1, .int ((0 : Int32))), (0, .int a0)]) hx hb dX5_lengthOf_3 rfl hl (by decide) rfl (fun ls hl => ?_)
  refine lv_iconst (v := 0) hx hb dX5_lengthOf_4 (by decide) ?_
  refine lv_istore_n (lv' := [(3, .int ((0 : Int32))), (2, .int a0), (1, .int ((0 : Int32))), (0, .int a0)]) hx hb dX5_lengthOf_5 rfl hl (by decide) rfl (fun ls hl => ?_)
  exact BL6 FU _ _ _ _ hf H locs ls (lv_sub hl [2, 1, 0] rfl) hH
set_option maxHeartbeats 4000000 in
set_option maxRecDepth 100000 in
theorem C_X5_letterAt (l : Launch) (X : Cx) (hI : Inj X) (a0 : Int32) (a1 : Int32) (h : Hp) (r0 : Int32) (h0 : Hp) (hf : f_X5_letterAt a0 a1 h = some (r0, h0)) : Mi l X yX5_letterAt cX5_letterAt 5 (some .int) 1 23 h [.int a0, .int a1] r0 h0 := by
  refine BD_of (own := RX5) hI rfl (by decide) (Nat.le_of_ble_eq_true rfl) ?_
  intro p e s m args below meth c S hr hlk hK hN
  obtain ⟨hx, hb, hml, hown, hts⟩ := id S
  have B20 : ∀ (k20 : Int32 → Int32 → Int32 → Hp → Option (Int32 × Hp)) (hk20 : ∀ (x2 : Int32) (x3 : Int32) (x4 : Int32) (h : Hp), k20 x2 x3 x4 h = some (r0, h0) → BK p l e ({ frames := 1, cells := 0, slots := 0, locals := 23 }) s m args below meth c (MQ below (cQi X r0 h0) args s 0 0 (AD X)) X 5 20 [(2, .int x2), (3, .int x3), (4, .int x4)] [] h) (x2 : Int32) (x3 : Int32) (x4 : Int32) (h : Hp), g_X5_letterAt_20 a0 a1 k20 x2 x3 x4 h = some (r0, h0) → BK p l e ({ frames := 1, cells := 0, slots := 0, locals := 23 }) s m args below meth c (MQ below (cQi X r0 h0) args s 0 0 (AD X)) X 5 20 [(2, .int x2), (3, .int x3), (4, .int x4)] [] h := by
    intro k20 hk20 x2 x3 x4 h hf H locs ls hl hH
    unfold g_X5_letterAt_20 at hf
    refine lv_iload hx hb dX5_letterAt_20 (lv_at hl 2 rfl) ?_
    refine lv_iload_n hx hb dX5_letterAt_22 rfl (lv_at hl 0 rfl) ?_
    refine lv_icmp_ge (tgt := 37) hx hb dX5_letterAt_23 (by decide) (fun c1 => ?_) (fun c1 => ?_)
    · replace hf := ite_t c1 hf
      refine lv_iload_n hx hb dX5_letterAt_37 rfl (lv_at hl 1 rfl) ?_
      refine lv_bipush (v := 10) hx hb dX5_letterAt_38 (by decide) ?_
      refine lv_irem hx hb dX5_letterAt_40 (by decide) ?_
      exact wk_iret S hr hlk hK hN hH hf dX5_letterAt_41
    · replace hf := ite_f c1 hf
      refine lv_iload_n hx hb dX5_letterAt_26 rfl (lv_at hl 1 rfl) ?_
      refine lv_bipush (v := 10) hx hb dX5_letterAt_27 (by decide) ?_
      refine lv_idiv hx hb dX5_letterAt_29 (by decide) ?_
      refine lv_istore_n (lv' := [(3, .int ((x3 / (10 : Int32)))), (2, .int x2), (4, .int x4)]) hx hb dX5_letterAt_30 rfl hl (by decide) rfl (fun ls hl => ?_)
      refine lv_iinc (v := (x4 + (1 : Int32))) (lv' := [(4, .int ((x4 + (1 : Int32)))), (3, .int ((x3 / (10 : Int32)))), (2, .int x2)]) hx hb dX5_letterAt_31 hl (k := 2) rfl rfl (by decide) rfl (fun ls hl => ?_)
      refine lv_goto (tgt := 20) hx hb dX5_letterAt_34 (by decide) ?_
      exact hk20 _ _ _ _ hf H locs ls (lv_sub hl [2, 1, 0] rfl) hH
  have BL20 : ∀ (n : Nat) (x2 : Int32) (x3 : Int32) (x4 : Int32) (h : Hp), f_X5_letterAt_20 a0 a1 n x2 x3 x4 h = some (r0, h0) → BK p l e ({ frames := 1, cells := 0, slots := 0, locals := 23 }) s m args below meth c (MQ below (cQi X r0 h0) args s 0 0 (AD X)) X 5 20 [(2, .int x2), (3, .int x3), (4, .int x4)] [] h := by
    intro n
    induction n with
    | zero => intro x2 x3 x4 h hf; cases hf
    | succ n ih => intro x2 x3 x4 h hf; exact B20 _ ih _ _ _ _ hf
  intro H locs ls hl hH
  replace hl : lv_has ls 5 [(0, .int a0), (1, .int a1)] := hl
  unfold f_X5_letterAt at hf
  refine lv_iload_n hx hb dX5_letterAt_0 rfl (lv_at hl 0 rfl) ?_
  obtain ⟨r4, h3, hq2, hf⟩ := bnd_ok hf
  refine wk_callSi (As := [.int a0]) (rest := []) S hK hN hH (C_X5_lengthOf l X hI a0 _ _ _ hq2) (va_cwS 1 hts (gS wU_in m_581 m_532 m_43 m_533) rfl rfl rfl hdS_X5_lengthOf ⟨Nat.le_of_ble_eq_true rfl, Nat.le_of_ble_eq_true rfl⟩) hl.1 rfl rfl (Nat.le_of_ble_eq_true rfl) dX5_letterAt_1 ⟨Nat.zero_le _, Nat.zero_le _⟩ (fun H locs hH => ?_)
  refine lv_iconst (v := 1) hx hb dX5_letterAt_4 (by decide) ?_
  refine lv_isub hx hb dX5_letterAt_5 ?_
  refine lv_iload_n hx hb dX5_letterAt_6 rfl (lv_at hl 1 rfl) ?_
  refine lv_isub hx hb dX5_letterAt_7 ?_
  refine lv_istore_n (lv' := [(2, .int (((r4 - (1 : Int32)) - a1))), (0, .int a0), (1, .int a1)]) hx hb dX5_letterAt_8 rfl hl (by decide) rfl (fun ls hl => ?_)
  refine lv_iload_n hx hb dX5_letterAt_9 rfl (lv_at hl 0 rfl) ?_
  refine lv_if_ge (tgt := 15) hx hb dX5_letterAt_10 (by decide) (fun c5 => ?_) (fun c5 => ?_)
  · replace hf := ite_t c5 hf
    refine lv_iload_n hx hb dX5_letterAt_15 rfl (lv_at hl 1 rfl) ?_
    refine lv_istore_n (lv' := [(3, .int a0), (2, .int (((r4 - (1 : Int32)) - a1))), (0, .int a0), (1, .int a1)]) hx hb dX5_letterAt_16 rfl hl (by decide) rfl (fun ls hl => ?_)
    refine lv_iconst (v := 0) hx hb dX5_letterAt_17 (by decide) ?_
    refine lv_istore (lv' := [(4, .int ((0 : Int32))), (3, .int a0), (2, .int (((r4 - (1 : Int32)) - a1))), (0, .int a0), (1, .int a1)]) hx hb dX5_letterAt_18 hl (by decide) rfl (fun ls hl => ?_)
    exact BL20 FU _ _ _ _ hf H locs ls (lv_sub hl [2, 1, 0] rfl) hH
  · replace hf := ite_f c5 hf
    refine lv_iconst (v := 0) hx hb dX5_letterAt_13 (by decide) ?_
    exact wk_iret S hr hlk hK hN hH hf dX5_letterAt_14
set_option maxHeartbeats 4000000 in
set_option maxRecDepth 100000 in
theorem C_X1_agreeWith (l : Launch) (X : Cx) (hI : Inj X) {a0 : Nat} (t0 : tY a0 = 1) (a1 : Int32) {a2 : Nat} (t2 : tY a2 = 2) {a3 : Nat} (t3 : tY a3 = 4) (h : Hp) (r0 : Int32) (h0 : Hp) (hf : f_X1_agreeWith a0 a1 a2 a3 h = some (r0, h0)) : Mi l X yX1_agreeWith cX1_agreeWith 6 (some .boolean) 3 77 h [.ref (X.2.2.2 a0), .int a1, .ref (X.2.2.2 a2), .ref (X.2.2.2 a3)] r0 h0 := by
  refine BD_of (own := RX1) hI rfl (by decide) (Nat.le_of_ble_eq_true rfl) ?_
  intro p e s m args below meth c S hr hlk hK hN
  obtain ⟨hx, hb, hml, hown, hts⟩ := id S
  have B83 : ∀ (k3 : Int32 → Hp → Option (Int32 × Hp)) (hk3 : ∀ (x4 : Int32) (h : Hp), k3 x4 h = some (r0, h0) → BK p l e ({ frames := 3, cells := 0, slots := 0, locals := 77 }) s m args below meth c (MQ below (cQi X r0 h0) args s 0 0 (AD X)) X 6 3 [(0, .ref (X.2.2.2 a0)), (1, .int a1), (2, .ref (X.2.2.2 a2)), (3, .ref (X.2.2.2 a3)), (4, .int x4)] [] h) (x4 : Int32) (z0 : Int32) (h : Hp), g_X1_agreeWith_83 a0 a1 a2 a3 k3 x4 z0 h = some (r0, h0) → BK p l e ({ frames := 3, cells := 0, slots := 0, locals := 77 }) s m args below meth c (MQ below (cQi X r0 h0) args s 0 0 (AD X)) X 6 83 [(0, .ref (X.2.2.2 a0)), (1, .int a1), (2, .ref (X.2.2.2 a2)), (3, .ref (X.2.2.2 a3)), (4, .int x4)] [.int z0] h := by
    intro k3 hk3 x4 z0 h hf H locs ls hl hH
    unfold g_X1_agreeWith_83 at hf
    refine lv_aload_n hx hb dX1_agreeWith_83 rfl (lv_at hl 0 rfl) ?_
    refine wk_getr (ci := 1) (k := 3) S hK hH j_X1 t0 rfl hq_1_3 (hts _ (wU_in _ m_202)) dX1_agreeWith_84 ?_
    refine lv_iload hx hb dX1_agreeWith_87 (lv_at hl 4 rfl) ?_
    obtain ⟨o1, hf⟩ := ite_ok hf
    refine wk_zald S hK hH (tr_1_3 t0) o1 dX1_agreeWith_89 ?_
    refine lv_icmp_eq (tgt := 95) hx hb dX1_agreeWith_90 (by decide) (fun c2 => ?_) (fun c2 => ?_)
    · replace hf := ite_t c2 hf
      refine lv_iinc (v := (x4 + (1 : Int32))) (lv' := [(4, .int ((x4 + (1 : Int32)))), (0, .ref (X.2.2.2 a0)), (1, .int a1), (2, .ref (X.2.2.2 a2)), (3, .ref (X.2.2.2 a3))]) hx hb dX1_agreeWith_95 hl (k := 4) rfl rfl (by decide) rfl (fun ls hl => ?_)
      refine lv_goto (tgt := 3) hx hb dX1_agreeWith_98 (by decide) ?_
      exact hk3 _ _ hf H locs ls (lv_sub hl [1, 2, 3, 4, 0] rfl) hH
    · replace hf := ite_f c2 hf
      refine lv_iconst (v := 0) hx hb dX1_agreeWith_93 (by decide) ?_
      exact wk_zret S hr hlk hK hN hH rfl hf dX1_agreeWith_94
  have B54 : ∀ (k3 : Int32 → Hp → Option (Int32 × Hp)) (hk3 : ∀ (x4 : Int32) (h : Hp), k3 x4 h = some (r0, h0) → BK p l e ({ frames := 3, cells := 0, slots := 0, locals := 77 }) s m args below meth c (MQ below (cQi X r0 h0) args s 0 0 (AD X)) X 6 3 [(0, .ref (X.2.2.2 a0)), (1, .int a1), (2, .ref (X.2.2.2 a2)), (3, .ref (X.2.2.2 a3)), (4, .int x4)] [] h) (x4 : Int32) (z0 : Int32) (h : Hp), g_X1_agreeWith_54 a0 a1 a2 a3 k3 x4 z0 h = some (r0, h0) → BK p l e ({ frames := 3, cells := 0, slots := 0, locals := 77 }) s m args below meth c (MQ below (cQi X r0 h0) args s 0 0 (AD X)) X 6 54 [(0, .ref (X.2.2.2 a0)), (1, .int a1), (2, .ref (X.2.2.2 a2)), (3, .ref (X.2.2.2 a3)), (4, .int x4)] [.int z0] h := by
    intro k3 hk3 x4 z0 h hf H locs ls hl hH
    unfold g_X1_agreeWith_54 at hf
    refine lv_istore (lv' := [(5, .int z0), (0, .ref (X.2.2.2 a0)), (1, .int a1), (2, .ref (X.2.2.2 a2)), (3, .ref (X.2.2.2 a3)), (4, .int x4)]) hx hb dX1_agreeWith_54 hl (by decide) rfl (fun ls hl => ?_)
    refine lv_iload hx hb dX1_agreeWith_56 (lv_at hl 0 rfl) ?_
    refine lv_aload_n hx hb dX1_agreeWith_58 rfl (lv_at hl 1 rfl) ?_
    refine wk_getr (ci := 1) (k := 1) S hK hH j_X1 t0 rfl hq_1_1 (hts _ (wU_in _ m_200)) dX1_agreeWith_59 ?_
    refine lv_iload hx hb dX1_agreeWith_62 (lv_at hl 5 rfl) ?_
    obtain ⟨o3, hf⟩ := ite_ok hf
    refine wk_iald S hK hH (tr_1_1 t0) o3 dX1_agreeWith_64 ?_
    obtain ⟨r6, h5, hq4, hf⟩ := bnd_ok hf
    refine wk_callSi (As := [.int z0, .int ((h.1 (rF a0 1) (x4).toNatClampNeg))]) (rest := []) S hK hN hH (C_X5_letterAt l X hI z0 (h.1 (rF a0 1) (x4).toNatClampNeg) _ _ _ hq4) (va_cwS 2 hts (gS wU_in m_578 m_579 m_43 m_580) rfl rfl rfl hdS_X5_letterAt ⟨Nat.le_of_ble_eq_true rfl, Nat.le_of_ble_eq_true rfl⟩) hl.1 rfl rfl (Nat.le_of_ble_eq_true rfl) dX1_agreeWith_65 ⟨Nat.zero_le _, Nat.zero_le _⟩ (fun H locs hH => ?_)
    refine lv_aload_n hx hb dX1_agreeWith_68 rfl (lv_at hl 1 rfl) ?_
    refine wk_getr (ci := 1) (k := 2) S hK hH j_X1 t0 rfl hq_1_2 (hts _ (wU_in _ m_201)) dX1_agreeWith_69 ?_
    refine lv_iload hx hb dX1_agreeWith_72 (lv_at hl 5 rfl) ?_
    obtain ⟨o7, hf⟩ := ite_ok hf
    refine wk_iald S hK hH (tr_1_2 t0) o7 dX1_agreeWith_74 ?_
    refine lv_icmp_ne (tgt := 82) hx hb dX1_agreeWith_75 (by decide) (fun c8 => ?_) (fun c8 => ?_)
    · replace hf := ite_f c8 hf
      refine lv_iconst (v := 0) hx hb dX1_agreeWith_82 (by decide) ?_
      exact B83 k3 hk3 _ _ _ hf H locs ls (lv_sub hl [1, 2, 3, 4, 5] rfl) hH
    · replace hf := ite_t c8 hf
      refine lv_iconst (v := 1) hx hb dX1_agreeWith_78 (by decide) ?_
      refine lv_goto (tgt := 83) hx hb dX1_agreeWith_79 (by decide) ?_
      exact B83 k3 hk3 _ _ _ hf H locs ls (lv_sub hl [1, 2, 3, 4, 5] rfl) hH
  have B3 : ∀ (k3 : Int32 → Hp → Option (Int32 × Hp)) (hk3 : ∀ (x4 : Int32) (h : Hp), k3 x4 h = some (r0, h0) → BK p l e ({ frames := 3, cells := 0, slots := 0, locals := 77 }) s m args below meth c (MQ below (cQi X r0 h0) args s 0 0 (AD X)) X 6 3 [(0, .ref (X.2.2.2 a0)), (1, .int a1), (2, .ref (X.2.2.2 a2)), (3, .ref (X.2.2.2 a3)), (4, .int x4)] [] h) (x4 : Int32) (h : Hp), g_X1_agreeWith_3 a0 a1 a2 a3 k3 x4 h = some (r0, h0) → BK p l e ({ frames := 3, cells := 0, slots := 0, locals := 77 }) s m args below meth c (MQ below (cQi X r0 h0) args s 0 0 (AD X)) X 6 3 [(0, .ref (X.2.2.2 a0)), (1, .int a1), (2, .ref (X.2.2.2 a2)), (3, .ref (X.2.2.2 a3)), (4, .int x4)] [] h := by
    intro k3 hk3 x4 h hf H locs ls hl hH
    unfold g_X1_agreeWith_3 at hf
    refine lv_iload hx hb dX1_agreeWith_3 (lv_at hl 4 rfl) ?_
    refine lv_aload_n hx hb dX1_agreeWith_5 rfl (lv_at hl 0 rfl) ?_
    refine wk_geti (ci := 1) (k := 4) S hK hH j_X1 t0 rfl hq_1_4 (hts _ (wU_in _ m_203)) dX1_agreeWith_6 ?_
    refine lv_icmp_ge (tgt := 101) hx hb dX1_agreeWith_9 (by decide) (fun c9 => ?_) (fun c9 => ?_)
    · replace hf := ite_t c9 hf
      refine lv_iconst (v := 1) hx hb dX1_agreeWith_101 (by decide) ?_
      exact wk_zret S hr hlk hK hN hH rfl hf dX1_agreeWith_102
    · replace hf := ite_f c9 hf
      refine lv_aload_n hx hb dX1_agreeWith_12 rfl (lv_at hl 2 rfl) ?_
      refine lv_aload_n hx hb dX1_agreeWith_13 rfl (lv_at hl 0 rfl) ?_
      refine wk_getr (ci := 1) (k := 0) S hK hH j_X1 t0 rfl hq_1_0 (hts _ (wU_in _ m_199)) dX1_agreeWith_14 ?_
      refine lv_iload hx hb dX1_agreeWith_17 (lv_at hl 4 rfl) ?_
      obtain ⟨o10, hf⟩ := ite_ok hf
      refine wk_iald S hK hH (tr_1_0 t0) o10 dX1_agreeWith_19 ?_
      obtain ⟨r13, h12, hq11, hf⟩ := bnd_ok hf
      refine wk_callVi (ci := 2) (b := a2) (As := [.int ((h.1 (rF a0 0) (x4).toNatClampNeg))]) (rest := []) S hK hN hH t2 (by decide) rfl (C_X2_hasEnding l X hI t2 (h.1 (rF a0 0) (x4).toNatClampNeg) _ _ _ hq11) (cwV 1 hts (gV wU_in m_575 m_396 m_397 m_37 m_398) rfl rfl rfl hdV_X2_hasEnding ⟨Nat.le_of_ble_eq_true rfl, Nat.le_of_ble_eq_true rfl⟩) hl.1 rfl rfl (Nat.le_of_ble_eq_true rfl) dX1_agreeWith_20 ⟨Nat.zero_le _, Nat.zero_le _⟩ (fun H locs hH => ?_)
      refine lv_if_eq (tgt := 53) hx hb dX1_agreeWith_23 (by decide) (fun c14 => ?_) (fun c14 => ?_)
      · replace hf := ite_t c14 hf
        refine lv_iconst (v := 0) hx hb dX1_agreeWith_53 (by decide) ?_
        exact B54 k3 hk3 _ _ _ hf H locs ls (lv_sub hl [0, 1, 2, 3, 4] rfl) hH
      · replace hf := ite_f c14 hf
        refine lv_aload_n hx hb dX1_agreeWith_26 rfl (lv_at hl 3 rfl) ?_
        refine lv_iload_n hx hb dX1_agreeWith_27 rfl (lv_at hl 1 rfl) ?_
        refine lv_aload_n hx hb dX1_agreeWith_28 rfl (lv_at hl 2 rfl) ?_
        refine wk_getrN (ci := 2) (k := 1) S hK hH j_X2 t2 rfl hq_2_1 (hN _ n_120) dX1_agreeWith_29 ?_
        refine lv_aload_n hx hb dX1_agreeWith_32 rfl (lv_at hl 0 rfl) ?_
        refine wk_getr (ci := 1) (k := 0) S hK hH j_X1 t0 rfl hq_1_0 (hts _ (wU_in _ m_199)) dX1_agreeWith_33 ?_
        refine lv_iload hx hb dX1_agreeWith_36 (lv_at hl 4 rfl) ?_
        obtain ⟨o15, hf⟩ := ite_ok hf
        refine wk_iald S hK hH (tr_1_0 t0) o15 dX1_agreeWith_38 ?_
        obtain ⟨o16, hf⟩ := ite_ok hf
        refine wk_iald S hK hH (tr_2_1 t2) o16 dX1_agreeWith_39 ?_
        obtain ⟨r19, h18, hq17, hf⟩ := bnd_ok hf
        refine wk_callSi (As := [.int a1, .int ((h12.1 (rF a2 1) ((h12.1 (rF a0 0) (x4).toNatClampNeg)).toNatClampNeg))]) (rest := [.ref (X.2.2.2 a3)]) S hK hN hH (C_X5_join l X hI a1 (h12.1 (rF a2 1) ((h12.1 (rF a0 0) (x4).toNatClampNeg)).toNatClampNeg) _ _ _ hq17) (va_cwS 2 hts (gS wU_in m_576 m_338 m_43 m_339) rfl rfl rfl hdS_X5_join ⟨Nat.le_of_ble_eq_true rfl, Nat.le_of_ble_eq_true rfl⟩) hl.1 rfl rfl (Nat.le_of_ble_eq_true rfl) dX1_agreeWith_40 ⟨Nat.zero_le _, Nat.zero_le _⟩ (fun H locs hH => ?_)
        refine lv_aload_n hx hb dX1_agreeWith_43 rfl (lv_at hl 3 rfl) ?_
        refine wk_getiN (ci := 4) (k := 5) S hK hH j_X4 t3 rfl hq_4_5 (hN _ n_150) dX1_agreeWith_44 ?_
        obtain ⟨r22, h21, hq20, hf⟩ := bnd_ok hf
        refine wk_callVi (ci := 4) (b := a3) (As := [.int r19, .int ((h18.1 a3 5))]) (rest := []) S hK hN hH t3 (by decide) rfl (C_X4_walk l X hI t3 r19 (h18.1 a3 5) _ _ _ hq20) (cwV 2 hts (gV wU_in m_577 m_380 m_381 m_38 m_382) rfl rfl rfl hdV_X4_walk ⟨Nat.le_of_ble_eq_true rfl, Nat.le_of_ble_eq_true rfl⟩) hl.1 rfl rfl (Nat.le_of_ble_eq_true rfl) dX1_agreeWith_47 ⟨Nat.zero_le _, Nat.zero_le _⟩ (fun H locs hH => ?_)
        refine lv_goto (tgt := 54) hx hb dX1_agreeWith_50 (by decide) ?_
        exact B54 k3 hk3 _ _ _ hf H locs ls (lv_sub hl [0, 1, 2, 3, 4] rfl) hH
  have BL3 : ∀ (n : Nat) (x4 : Int32) (h : Hp), f_X1_agreeWith_3 a0 a1 a2 a3 n x4 h = some (r0, h0) → BK p l e ({ frames := 3, cells := 0, slots := 0, locals := 77 }) s m args below meth c (MQ below (cQi X r0 h0) args s 0 0 (AD X)) X 6 3 [(0, .ref (X.2.2.2 a0)), (1, .int a1), (2, .ref (X.2.2.2 a2)), (3, .ref (X.2.2.2 a3)), (4, .int x4)] [] h := by
    intro n
    induction n with
    | zero => intro x4 h hf; cases hf
    | succ n ih => intro x4 h hf; exact B3 _ ih _ _ hf
  intro H locs ls hl hH
  replace hl : lv_has ls 6 [(0, .ref (X.2.2.2 a0)), (1, .int a1), (2, .ref (X.2.2.2 a2)), (3, .ref (X.2.2.2 a3))] := hl
  unfold f_X1_agreeWith at hf
  refine lv_iconst (v := 0) hx hb dX1_agreeWith_0 (by decide) ?_
  refine lv_istore (lv' := [(4, .int ((0 : Int32))), (0, .ref (X.2.2.2 a0)), (1, .int a1), (2, .ref (X.2.2.2 a2)), (3, .ref (X.2.2.2 a3))]) hx hb dX1_agreeWith_1 hl (by decide) rfl (fun ls hl => ?_)
  exact BL3 FU _ _ hf H locs ls (lv_sub hl [1, 2, 3, 4, 0] rfl) hH
set_option maxHeartbeats 4000000 in
set_option maxRecDepth 100000 in
theorem C_X2_takeFrom (l : Launch) (X : Cx) (hI : Inj X) {a0 : Nat} (t0 : tY a0 = 2) {a1 : Nat} (t1 : tY a1 = 3) (h : Hp) (h0 : Hp) (hf : f_X2_takeFrom a0 a1 h = some h0) : Mv l X yX2_takeFrom cX2_takeFrom 2 none 1 40 h [.ref (X.2.2.2 a0), .ref (X.2.2.2 a1)] h0 := by
  refine BD_of (own := RX2) hI rfl (by decide) (Nat.le_of_ble_eq_true rfl) ?_
  intro p e s m args below meth c S hr hlk hK hN
  obtain ⟨hx, hb, hml, hown, hts⟩ := id S
  intro H locs ls hl hH
  replace hl : lv_has ls 2 [(0, .ref (X.2.2.2 a0)), (1, .ref (X.2.2.2 a1))] := hl
  unfold f_X2_takeFrom at hf
  refine lv_aload_n hx hb dX2_takeFrom_0 rfl (lv_at hl 1 rfl) ?_
  refine wk_getrN (ci := 3) (k := 2) S hK hH j_X3 t1 rfl hq_3_2 (hN _ n_64) dX2_takeFrom_1 ?_
  refine lv_iconst (v := 0) hx hb dX2_takeFrom_4 (by decide) ?_
  refine lv_aload_n hx hb dX2_takeFrom_5 rfl (lv_at hl 0 rfl) ?_
  refine wk_getr (ci := 2) (k := 0) S hK hH j_X2 t0 rfl hq_2_0 (hts _ (wU_in _ m_117)) dX2_takeFrom_6 ?_
  refine lv_iconst (v := 0) hx hb dX2_takeFrom_9 (by decide) ?_
  refine lv_iconst (v := 4) hx hb dX2_takeFrom_10 (by decide) ?_
  obtain ⟨o1, hf⟩ := ite_ok hf
  refine wk_copy (rest := []) S hK hH hl.1 (tr_3_2 t1) (tr_2_0 t0) (by decide) o1.1 o1.2 (hts _ (wU_in _ m_309)) (hts _ (wU_in _ m_311)) (hts _ (wU_in _ m_310)) (hts _ (wU_in _ m_42)) (by decide) (by decide +kernel) dX2_takeFrom_11 (fun H locs hH => ?_)
  refine lv_aload_n hx hb dX2_takeFrom_14 rfl (lv_at hl 1 rfl) ?_
  refine wk_getrN (ci := 3) (k := 3) S hK hH j_X3 t1 rfl hq_3_3 (hN _ n_66) dX2_takeFrom_15 ?_
  refine lv_iconst (v := 0) hx hb dX2_takeFrom_18 (by decide) ?_
  refine lv_aload_n hx hb dX2_takeFrom_19 rfl (lv_at hl 0 rfl) ?_
  refine wk_getr (ci := 2) (k := 1) S hK hH j_X2 t0 rfl hq_2_1 (hts _ (wU_in _ m_119)) dX2_takeFrom_20 ?_
  refine lv_iconst (v := 0) hx hb dX2_takeFrom_23 (by decide) ?_
  refine lv_iconst (v := 3) hx hb dX2_takeFrom_24 (by decide) ?_
  obtain ⟨o3, hf⟩ := ite_ok hf
  refine wk_copy (rest := []) S hK hH hl.1 (tr_3_3 t1) (tr_2_1 t0) (by decide) o3.1 o3.2 (hts _ (wU_in _ m_309)) (hts _ (wU_in _ m_311)) (hts _ (wU_in _ m_310)) (hts _ (wU_in _ m_42)) (by decide) (by decide +kernel) dX2_takeFrom_25 (fun H locs hH => ?_)
  refine lv_aload_n hx hb dX2_takeFrom_28 rfl (lv_at hl 0 rfl) ?_
  refine lv_aload_n hx hb dX2_takeFrom_29 rfl (lv_at hl 1 rfl) ?_
  refine wk_getiN (ci := 3) (k := 5) S hK hH j_X3 t1 rfl hq_3_5 (hN _ n_69) dX2_takeFrom_30 ?_
  refine wk_puti (ci := 2) (k := 2) S hK hH j_X2 tyX2 tyX2_ok nmX2 t0 rfl hq_2_2 rfl hd_2_2 (hts _ (wU_in _ m_122)) dX2_takeFrom_33 (fun H locs hH => ?_)
  refine lv_aload_n hx hb dX2_takeFrom_36 rfl (lv_at hl 0 rfl) ?_
  refine lv_aload_n hx hb dX2_takeFrom_37 rfl (lv_at hl 1 rfl) ?_
  refine wk_getiN (ci := 3) (k := 6) S hK hH j_X3 t1 rfl hq_3_6 (hN _ n_71) dX2_takeFrom_38 ?_
  refine wk_puti (ci := 2) (k := 3) S hK hH j_X2 tyX2 tyX2_ok nmX2 t0 rfl hq_2_3 rfl hd_2_3 (hts _ (wU_in _ m_125)) dX2_takeFrom_41 (fun H locs hH => ?_)
  exact wk_vret S hr hlk hK hN hH hf dX2_takeFrom_44
set_option maxHeartbeats 4000000 in
set_option maxRecDepth 100000 in
theorem C_X2_hasRoot (l : Launch) (X : Cx) (hI : Inj X) {a0 : Nat} (t0 : tY a0 = 2) (a1 : Int32) (h : Hp) (r0 : Int32) (h0 : Hp) (hf : f_X2_hasRoot a0 a1 h = some (r0, h0)) : Mi l X yX2_hasRoot cX2_hasRoot 2 (some .boolean) 0 0 h [.ref (X.2.2.2 a0), .int a1] r0 h0 := by
  refine BD_of (own := RX2) hI rfl (by decide) (Nat.le_of_ble_eq_true rfl) ?_
  intro p e s m args below meth c S hr hlk hK hN
  obtain ⟨hx, hb, hml, hown, hts⟩ := id S
  intro H locs ls hl hH
  replace hl : lv_has ls 2 [(0, .ref (X.2.2.2 a0)), (1, .int a1)] := hl
  unfold f_X2_hasRoot at hf
  refine lv_iload_n hx hb dX2_hasRoot_0 rfl (lv_at hl 1 rfl) ?_
  refine lv_if_lt (tgt := 16) hx hb dX2_hasRoot_1 (by decide) (fun c1 => ?_) (fun c1 => ?_)
  · replace hf := ite_t c1 hf
    refine lv_iconst (v := 0) hx hb dX2_hasRoot_16 (by decide) ?_
    exact wk_zret S hr hlk hK hN hH rfl hf dX2_hasRoot_17
  · replace hf := ite_f c1 hf
    refine lv_iload_n hx hb dX2_hasRoot_4 rfl (lv_at hl 1 rfl) ?_
    refine lv_aload_n hx hb dX2_hasRoot_5 rfl (lv_at hl 0 rfl) ?_
    refine wk_geti (ci := 2) (k := 2) S hK hH j_X2 t0 rfl hq_2_2 (hts _ (wU_in _ m_122)) dX2_hasRoot_6 ?_
    refine lv_icmp_ge (tgt := 16) hx hb dX2_hasRoot_9 (by decide) (fun c2 => ?_) (fun c2 => ?_)
    · replace hf := ite_t c2 hf
      refine lv_iconst (v := 0) hx hb dX2_hasRoot_16 (by decide) ?_
      exact wk_zret S hr hlk hK hN hH rfl hf dX2_hasRoot_17
    · replace hf := ite_f c2 hf
      refine lv_iconst (v := 1) hx hb dX2_hasRoot_12 (by decide) ?_
      refine lv_goto (tgt := 17) hx hb dX2_hasRoot_13 (by decide) ?_
      exact wk_zret S hr hlk hK hN hH rfl hf dX2_hasRoot_17
set_option maxHeartbeats 4000000 in
set_option maxRecDepth 100000 in
theorem C_X2_hasPair (l : Launch) (X : Cx) (hI : Inj X) {a0 : Nat} (t0 : tY a0 = 2) (a1 : Int32) (a2 : Int32) (h : Hp) (r0 : Int32) (h0 : Hp) (hf : f_X2_hasPair a0 a1 a2 h = some (r0, h0)) : Mi l X yX2_hasPair cX2_hasPair 3 (some .boolean) 1 21 h [.ref (X.2.2.2 a0), .int a1, .int a2] r0 h0 := by
  refine BD_of (own := RX2) hI rfl (by decide) (Nat.le_of_ble_eq_true rfl) ?_
  intro p e s m args below meth c S hr hlk hK hN
  obtain ⟨hx, hb, hml, hown, hts⟩ := id S
  intro H locs ls hl hH
  replace hl : lv_has ls 3 [(0, .ref (X.2.2.2 a0)), (1, .int a1), (2, .int a2)] := hl
  unfold f_X2_hasPair at hf
  refine lv_aload_n hx hb dX2_hasPair_0 rfl (lv_at hl 0 rfl) ?_
  refine lv_iload_n hx hb dX2_hasPair_1 rfl (lv_at hl 1 rfl) ?_
  obtain ⟨r3, h2, hq1, hf⟩ := bnd_ok hf
  refine wk_callVi (ci := 2) (b := a0) (As := [.int a1]) (rest := []) S hK hN hH t0 (by decide) rfl (C_X2_hasRoot l X hI t0 a1 _ _ _ hq1) (cwV 1 hts (gV wU_in m_423 m_392 m_393 m_37 m_394) rfl rfl rfl hdV_X2_hasRoot ⟨Nat.le_of_ble_eq_true rfl, Nat.le_of_ble_eq_true rfl⟩) hl.1 rfl rfl (Nat.le_of_ble_eq_true rfl) dX2_hasPair_2 ⟨Nat.zero_le _, Nat.zero_le _⟩ (fun H locs hH => ?_)
  refine lv_if_eq (tgt := 20) hx hb dX2_hasPair_5 (by decide) (fun c4 => ?_) (fun c4 => ?_)
  · replace hf := ite_t c4 hf
    refine lv_iconst (v := 0) hx hb dX2_hasPair_20 (by decide) ?_
    exact wk_zret S hr hlk hK hN hH rfl hf dX2_hasPair_21
  · replace hf := ite_f c4 hf
    refine lv_aload_n hx hb dX2_hasPair_8 rfl (lv_at hl 0 rfl) ?_
    refine lv_iload_n hx hb dX2_hasPair_9 rfl (lv_at hl 2 rfl) ?_
    obtain ⟨r7, h6, hq5, hf⟩ := bnd_ok hf
    refine wk_callVi (ci := 2) (b := a0) (As := [.int a2]) (rest := []) S hK hN hH t0 (by decide) rfl (C_X2_hasEnding l X hI t0 a2 _ _ _ hq5) (cwV 1 hts (gV wU_in m_424 m_396 m_397 m_37 m_398) rfl rfl rfl hdV_X2_hasEnding ⟨Nat.le_of_ble_eq_true rfl, Nat.le_of_ble_eq_true rfl⟩) hl.1 rfl rfl (Nat.le_of_ble_eq_true rfl) dX2_hasPair_10 ⟨Nat.zero_le _, Nat.zero_le _⟩ (fun H locs hH => ?_)
    refine lv_if_eq (tgt := 20) hx hb dX2_hasPair_13 (by decide) (fun c8 => ?_) (fun c8 => ?_)
    · replace hf := ite_t c8 hf
      refine lv_iconst (v := 0) hx hb dX2_hasPair_20 (by decide) ?_
      exact wk_zret S hr hlk hK hN hH rfl hf dX2_hasPair_21
    · replace hf := ite_f c8 hf
      refine lv_iconst (v := 1) hx hb dX2_hasPair_16 (by decide) ?_
      refine lv_goto (tgt := 21) hx hb dX2_hasPair_17 (by decide) ?_
      exact wk_zret S hr hlk hK hN hH rfl hf dX2_hasPair_21
set_option maxHeartbeats 4000000 in
set_option maxRecDepth 100000 in
theorem C_X2_joined (l : Launch) (X : Cx) (hI : Inj X) {a0 : Nat} (t0 : tY a0 = 2) (a1 : Int32) (a2 : Int32) (h : Hp) (r0 : Int32) (h0 : Hp) (hf : f_X2_joined a0 a1 a2 h = some (r0, h0)) : Mi l X yX2_joined cX2_joined 3 (some .int) 1 21 h [.ref (X.2.2.2 a0), .int a1, .int a2] r0 h0 := by
  refine BD_of (own := RX2) hI rfl (by decide) (Nat.le_of_ble_eq_true rfl) ?_
  intro p e s m args below meth c S hr hlk hK hN
  obtain ⟨hx, hb, hml, hown, hts⟩ := id S
  intro H locs ls hl hH
  replace hl : lv_has ls 3 [(0, .ref (X.2.2.2 a0)), (1, .int a1), (2, .int a2)] := hl
  unfold f_X2_joined at hf
  refine lv_aload_n hx hb dX2_joined_0 rfl (lv_at hl 0 rfl) ?_
  refine wk_getr (ci := 2) (k := 0) S hK hH j_X2 t0 rfl hq_2_0 (hts _ (wU_in _ m_117)) dX2_joined_1 ?_
  refine lv_iload_n hx hb dX2_joined_4 rfl (lv_at hl 1 rfl) ?_
  obtain ⟨o1, hf⟩ := ite_ok hf
  refine wk_iald S hK hH (tr_2_0 t0) o1 dX2_joined_5 ?_
  refine lv_aload_n hx hb dX2_joined_6 rfl (lv_at hl 0 rfl) ?_
  refine wk_getr (ci := 2) (k := 1) S hK hH j_X2 t0 rfl hq_2_1 (hts _ (wU_in _ m_119)) dX2_joined_7 ?_
  refine lv_iload_n hx hb dX2_joined_10 rfl (lv_at hl 2 rfl) ?_
  obtain ⟨o2, hf⟩ := ite_ok hf
  refine wk_iald S hK hH (tr_2_1 t0) o2 dX2_joined_11 ?_
  obtain ⟨r5, h4, hq3, hf⟩ := bnd_ok hf
  refine wk_callSi (As := [.int ((h.1 (rF a0 0) (a1).toNatClampNeg)), .int ((h.1 (rF a0 1) (a2).toNatClampNeg))]) (rest := []) S hK hN hH (C_X5_join l X hI (h.1 (rF a0 0) (a1).toNatClampNeg) (h.1 (rF a0 1) (a2).toNatClampNeg) _ _ _ hq3) (va_cwS 2 hts (gS wU_in m_337 m_338 m_43 m_339) rfl rfl rfl hdS_X5_join ⟨Nat.le_of_ble_eq_true rfl, Nat.le_of_ble_eq_true rfl⟩) hl.1 rfl rfl (Nat.le_of_ble_eq_true rfl) dX2_joined_12 ⟨Nat.zero_le _, Nat.zero_le _⟩ (fun H locs hH => ?_)
  exact wk_iret S hr hlk hK hN hH hf dX2_joined_15
set_option maxHeartbeats 4000000 in
set_option maxRecDepth 100000 in
theorem C_X3_append (l : Launch) (X : Cx) (hI : Inj X) {a0 : Nat} (t0 : tY a0 = 3) (a1 : Int32) (h : Hp) (r0 : Int32) (h0 : Hp) (hf : f_X3_append a0 a1 h = some (r0, h0)) : Mi l X yX3_append cX3_append 2 (some .boolean) 0 0 h [.ref (X.2.2.2 a0), .int a1] r0 h0 := by
  refine BD_of (own := RX3) hI rfl (by decide) (Nat.le_of_ble_eq_true rfl) ?_
  intro p e s m args below meth c S hr hlk hK hN
  obtain ⟨hx, hb, hml, hown, hts⟩ := id S
  intro H locs ls hl hH
  replace hl : lv_has ls 2 [(0, .ref (X.2.2.2 a0)), (1, .int a1)] := hl
  unfold f_X3_append at hf
  refine lv_aload_n hx hb dX3_append_0 rfl (lv_at hl 0 rfl) ?_
  refine wk_geti (ci := 3) (k := 1) S hK hH j_X3 t0 rfl hq_3_1 (hts _ (wU_in _ m_61)) dX3_append_1 ?_
  refine lv_bipush (v := 60) hx hb dX3_append_4 (by decide) ?_
  refine lv_icmp_lt (tgt := 11) hx hb dX3_append_6 (by decide) (fun c1 => ?_) (fun c1 => ?_)
  · replace hf := ite_t c1 hf
    refine lv_aload_n hx hb dX3_append_11 rfl (lv_at hl 0 rfl) ?_
    refine wk_getr (ci := 3) (k := 0) S hK hH j_X3 t0 rfl hq_3_0 (hts _ (wU_in _ m_60)) dX3_append_12 ?_
    refine lv_aload_n hx hb dX3_append_15 rfl (lv_at hl 0 rfl) ?_
    refine wk_geti (ci := 3) (k := 1) S hK hH j_X3 t0 rfl hq_3_1 (hts _ (wU_in _ m_61)) dX3_append_16 ?_
    refine lv_iload_n hx hb dX3_append_19 rfl (lv_at hl 1 rfl) ?_
    obtain ⟨o2, hf⟩ := ite_ok hf
    refine wk_iast S hK hH (tr_3_0 t0) o2 dX3_append_20 (fun H locs hH => ?_)
    refine lv_aload_n hx hb dX3_append_21 rfl (lv_at hl 0 rfl) ?_
    refine lv_dup hx hb dX3_append_22 rfl ?_
    refine wk_geti (ci := 3) (k := 1) S hK hH j_X3 t0 rfl hq_3_1 (hts _ (wU_in _ m_61)) dX3_append_23 ?_
    refine lv_iconst (v := 1) hx hb dX3_append_26 (by decide) ?_
    refine lv_iadd hx hb dX3_append_27 ?_
    refine wk_puti (ci := 3) (k := 1) S hK hH j_X3 tyX3 tyX3_ok nmX3 t0 rfl hq_3_1 rfl hd_3_1 (hts _ (wU_in _ m_61)) dX3_append_28 (fun H locs hH => ?_)
    refine lv_iconst (v := 1) hx hb dX3_append_31 (by decide) ?_
    exact wk_zret S hr hlk hK hN hH rfl hf dX3_append_32
  · replace hf := ite_f c1 hf
    refine lv_iconst (v := 0) hx hb dX3_append_9 (by decide) ?_
    exact wk_zret S hr hlk hK hN hH rfl hf dX3_append_10
set_option maxHeartbeats 4000000 in
set_option maxRecDepth 100000 in
theorem C_X3_beginReading (l : Launch) (X : Cx) (hI : Inj X) {a0 : Nat} (t0 : tY a0 = 3) (h : Hp) (h0 : Hp) (hf : f_X3_beginReading a0 h = some h0) : Mv l X yX3_beginReading cX3_beginReading 1 none 0 0 h [.ref (X.2.2.2 a0)] h0 := by
  refine BD_of (own := RX3) hI rfl (by decide) (Nat.le_of_ble_eq_true rfl) ?_
  intro p e s m args below meth c S hr hlk hK hN
  obtain ⟨hx, hb, hml, hown, hts⟩ := id S
  intro H locs ls hl hH
  replace hl : lv_has ls 1 [(0, .ref (X.2.2.2 a0))] := hl
  unfold f_X3_beginReading at hf
  refine lv_aload_n hx hb dX3_beginReading_0 rfl (lv_at hl 0 rfl) ?_
  refine lv_iconst (v := 0) hx hb dX3_beginReading_1 (by decide) ?_
  refine wk_puti (ci := 3) (k := 5) S hK hH j_X3 tyX3 tyX3_ok nmX3 t0 rfl hq_3_5 rfl hd_3_5 (hts _ (wU_in _ m_70)) dX3_beginReading_2 (fun H locs hH => ?_)
  refine lv_aload_n hx hb dX3_beginReading_5 rfl (lv_at hl 0 rfl) ?_
  refine lv_iconst (v := 0) hx hb dX3_beginReading_6 (by decide) ?_
  refine wk_puti (ci := 3) (k := 6) S hK hH j_X3 tyX3 tyX3_ok nmX3 t0 rfl hq_3_6 rfl hd_3_6 (hts _ (wU_in _ m_72)) dX3_beginReading_7 (fun H locs hH => ?_)
  refine lv_aload_n hx hb dX3_beginReading_10 rfl (lv_at hl 0 rfl) ?_
  refine lv_iconst (v := 0) hx hb dX3_beginReading_11 (by decide) ?_
  refine wk_puti (ci := 3) (k := 7) S hK hH j_X3 tyX3 tyX3_ok nmX3 t0 rfl hq_3_7 rfl hd_3_7 (hts _ (wU_in _ m_74)) dX3_beginReading_12 (fun H locs hH => ?_)
  refine lv_aload_n hx hb dX3_beginReading_15 rfl (lv_at hl 0 rfl) ?_
  refine lv_iconst (v := 0) hx hb dX3_beginReading_16 (by decide) ?_
  refine wk_puti (ci := 3) (k := 8) S hK hH j_X3 tyX3 tyX3_ok nmX3 t0 rfl hq_3_8 rfl hd_3_8 (hts _ (wU_in _ m_75)) dX3_beginReading_17 (fun H locs hH => ?_)
  refine lv_aload_n hx hb dX3_beginReading_20 rfl (lv_at hl 0 rfl) ?_
  refine lv_iconst (v := 0) hx hb dX3_beginReading_21 (by decide) ?_
  refine wk_puti (ci := 3) (k := 11) S hK hH j_X3 tyX3 tyX3_ok nmX3 t0 rfl hq_3_11 rfl hd_3_11 (hts _ (wU_in _ m_81)) dX3_beginReading_22 (fun H locs hH => ?_)
  refine lv_aload_n hx hb dX3_beginReading_25 rfl (lv_at hl 0 rfl) ?_
  refine lv_iconst (v := 0) hx hb dX3_beginReading_26 (by decide) ?_
  refine wk_puti (ci := 3) (k := 12) S hK hH j_X3 tyX3 tyX3_ok nmX3 t0 rfl hq_3_12 rfl hd_3_12 (hts _ (wU_in _ m_82)) dX3_beginReading_27 (fun H locs hH => ?_)
  exact wk_vret S hr hlk hK hN hH hf dX3_beginReading_30
set_option maxHeartbeats 4000000 in
set_option maxRecDepth 100000 in
theorem C_X3_isOfLetters (l : Launch) (X : Cx) (hI : Inj X) {a0 : Nat} (t0 : tY a0 = 3) (h : Hp) (r0 : Int32) (h0 : Hp) (hf : f_X3_isOfLetters a0 h = some (r0, h0)) : Mi l X yX3_isOfLetters cX3_isOfLetters 1 (some .boolean) 0 0 h [.ref (X.2.2.2 a0)] r0 h0 := by
  refine BD_of (own := RX3) hI rfl (by decide) (Nat.le_of_ble_eq_true rfl) ?_
  intro p e s m args below meth c S hr hlk hK hN
  obtain ⟨hx, hb, hml, hown, hts⟩ := id S
  have B16 : ∀ (h : Hp), g_X3_isOfLetters_16 a0 h = some (r0, h0) → BK p l e ({ frames := 0, cells := 0, slots := 0, locals := 0 }) s m args below meth c (MQ below (cQi X r0 h0) args s 0 0 (AD X)) X 1 16 [] [] h := by
    intro h hf H locs ls hl hH
    unfold g_X3_isOfLetters_16 at hf
    refine lv_iconst (v := 1) hx hb dX3_isOfLetters_16 (by decide) ?_
    refine lv_goto (tgt := 21) hx hb dX3_isOfLetters_17 (by decide) ?_
    exact wk_zret S hr hlk hK hN hH rfl hf dX3_isOfLetters_21
  intro H locs ls hl hH
  replace hl : lv_has ls 1 [(0, .ref (X.2.2.2 a0))] := hl
  unfold f_X3_isOfLetters at hf
  refine lv_aload_n hx hb dX3_isOfLetters_0 rfl (lv_at hl 0 rfl) ?_
  refine wk_geti (ci := 3) (k := 11) S hK hH j_X3 t0 rfl hq_3_11 (hts _ (wU_in _ m_81)) dX3_isOfLetters_1 ?_
  refine lv_iconst (v := 1) hx hb dX3_isOfLetters_4 (by decide) ?_
  refine lv_icmp_eq (tgt := 16) hx hb dX3_isOfLetters_5 (by decide) (fun c1 => ?_) (fun c1 => ?_)
  · replace hf := ite_t c1 hf
    exact B16 _ hf H locs ls (lv_sub hl [] rfl) hH
  · replace hf := ite_f c1 hf
    refine lv_aload_n hx hb dX3_isOfLetters_8 rfl (lv_at hl 0 rfl) ?_
    refine wk_geti (ci := 3) (k := 11) S hK hH j_X3 t0 rfl hq_3_11 (hts _ (wU_in _ m_81)) dX3_isOfLetters_9 ?_
    refine lv_iconst (v := 2) hx hb dX3_isOfLetters_12 (by decide) ?_
    refine lv_icmp_ne (tgt := 20) hx hb dX3_isOfLetters_13 (by decide) (fun c2 => ?_) (fun c2 => ?_)
    · replace hf := ite_f c2 hf
      refine lv_iconst (v := 0) hx hb dX3_isOfLetters_20 (by decide) ?_
      exact wk_zret S hr hlk hK hN hH rfl hf dX3_isOfLetters_21
    · replace hf := ite_t c2 hf
      exact B16 _ hf H locs ls (lv_sub hl [] rfl) hH
set_option maxHeartbeats 4000000 in
set_option maxRecDepth 100000 in
theorem C_X3_needsMore (l : Launch) (X : Cx) (hI : Inj X) {a0 : Nat} (t0 : tY a0 = 3) (h : Hp) (r0 : Int32) (h0 : Hp) (hf : f_X3_needsMore a0 h = some (r0, h0)) : Mi l X yX3_needsMore cX3_needsMore 1 (some .boolean) 1 20 h [.ref (X.2.2.2 a0)] r0 h0 := by
  refine BD_of (own := RX3) hI rfl (by decide) (Nat.le_of_ble_eq_true rfl) ?_
  intro p e s m args below meth c S hr hlk hK hN
  obtain ⟨hx, hb, hml, hown, hts⟩ := id S
  intro H locs ls hl hH
  replace hl : lv_has ls 1 [(0, .ref (X.2.2.2 a0))] := hl
  unfold f_X3_needsMore at hf
  refine lv_aload_n hx hb dX3_needsMore_0 rfl (lv_at hl 0 rfl) ?_
  obtain ⟨r3, h2, hq1, hf⟩ := bnd_ok hf
  refine wk_callVi (ci := 3) (b := a0) (As := []) (rest := []) S hK hN hH t0 (by decide) rfl (C_X3_isOfLetters l X hI t0 _ _ _ hq1) (cwV 0 hts (gV wU_in m_272 m_274 m_2 m_36 m_275) rfl rfl rfl hdV_X3_isOfLetters ⟨Nat.le_of_ble_eq_true rfl, Nat.le_of_ble_eq_true rfl⟩) hl.1 rfl rfl (Nat.le_of_ble_eq_true rfl) dX3_needsMore_1 ⟨Nat.zero_le _, Nat.zero_le _⟩ (fun H locs hH => ?_)
  refine lv_if_eq (tgt := 22) hx hb dX3_needsMore_4 (by decide) (fun c4 => ?_) (fun c4 => ?_)
  · replace hf := ite_t c4 hf
    refine lv_aload_n hx hb dX3_needsMore_22 rfl (lv_at hl 0 rfl) ?_
    refine wk_geti (ci := 3) (k := 11) S hK hH j_X3 t0 rfl hq_3_11 (hts _ (wU_in _ m_81)) dX3_needsMore_23 ?_
    refine lv_iconst (v := 3) hx hb dX3_needsMore_26 (by decide) ?_
    refine lv_icmp_ne (tgt := 42) hx hb dX3_needsMore_27 (by decide) (fun c5 => ?_) (fun c5 => ?_)
    · replace hf := ite_f c5 hf
      refine lv_iconst (v := 0) hx hb dX3_needsMore_42 (by decide) ?_
      exact wk_zret S hr hlk hK hN hH rfl hf dX3_needsMore_43
    · replace hf := ite_t c5 hf
      refine lv_aload_n hx hb dX3_needsMore_30 rfl (lv_at hl 0 rfl) ?_
      refine wk_geti (ci := 3) (k := 12) S hK hH j_X3 t0 rfl hq_3_12 (hts _ (wU_in _ m_82)) dX3_needsMore_31 ?_
      refine lv_iconst (v := 4) hx hb dX3_needsMore_34 (by decide) ?_
      refine lv_icmp_ge (tgt := 42) hx hb dX3_needsMore_35 (by decide) (fun c6 => ?_) (fun c6 => ?_)
      · replace hf := ite_t c6 hf
        refine lv_iconst (v := 0) hx hb dX3_needsMore_42 (by decide) ?_
        exact wk_zret S hr hlk hK hN hH rfl hf dX3_needsMore_43
      · replace hf := ite_f c6 hf
        refine lv_iconst (v := 1) hx hb dX3_needsMore_38 (by decide) ?_
        refine lv_goto (tgt := 43) hx hb dX3_needsMore_39 (by decide) ?_
        exact wk_zret S hr hlk hK hN hH rfl hf dX3_needsMore_43
  · replace hf := ite_f c4 hf
    refine lv_aload_n hx hb dX3_needsMore_7 rfl (lv_at hl 0 rfl) ?_
    refine wk_geti (ci := 3) (k := 12) S hK hH j_X3 t0 rfl hq_3_12 (hts _ (wU_in _ m_82)) dX3_needsMore_8 ?_
    refine lv_if_ne (tgt := 18) hx hb dX3_needsMore_11 (by decide) (fun c7 => ?_) (fun c7 => ?_)
    · replace hf := ite_f c7 hf
      refine lv_iconst (v := 0) hx hb dX3_needsMore_18 (by decide) ?_
      refine lv_goto (tgt := 43) hx hb dX3_needsMore_19 (by decide) ?_
      exact wk_zret S hr hlk hK hN hH rfl hf dX3_needsMore_43
    · replace hf := ite_t c7 hf
      refine lv_iconst (v := 1) hx hb dX3_needsMore_14 (by decide) ?_
      refine lv_goto (tgt := 43) hx hb dX3_needsMore_15 (by decide) ?_
      exact wk_zret S hr hlk hK hN hH rfl hf dX3_needsMore_43
set_option maxHeartbeats 4000000 in
set_option maxRecDepth 100000 in
theorem C_X3_isLetter (l : Launch) (X : Cx) (hI : Inj X) (a0 : Int32) (h : Hp) (r0 : Int32) (h0 : Hp) (hf : f_X3_isLetter a0 h = some (r0, h0)) : Mi l X yX3_isLetter cX3_isLetter 1 (some .boolean) 0 0 h [.int a0] r0 h0 := by
  refine BD_of (own := RX3) hI rfl (by decide) (Nat.le_of_ble_eq_true rfl) ?_
  intro p e s m args below meth c S hr hlk hK hN
  obtain ⟨hx, hb, hml, hown, hts⟩ := id S
  intro H locs ls hl hH
  replace hl : lv_has ls 1 [(0, .int a0)] := hl
  unfold f_X3_isLetter at hf
  refine lv_iload_n hx hb dX3_isLetter_0 rfl (lv_at hl 0 rfl) ?_
  refine lv_bipush (v := 97) hx hb dX3_isLetter_1 (by decide) ?_
  refine lv_icmp_lt (tgt := 16) hx hb dX3_isLetter_3 (by decide) (fun c1 => ?_) (fun c1 => ?_)
  · replace hf := ite_t c1 hf
    refine lv_iconst (v := 0) hx hb dX3_isLetter_16 (by decide) ?_
    exact wk_zret S hr hlk hK hN hH rfl hf dX3_isLetter_17
  · replace hf := ite_f c1 hf
    refine lv_iload_n hx hb dX3_isLetter_6 rfl (lv_at hl 0 rfl) ?_
    refine lv_bipush (v := 101) hx hb dX3_isLetter_7 (by decide) ?_
    refine lv_icmp_gt (tgt := 16) hx hb dX3_isLetter_9 (by decide) (fun c2 => ?_) (fun c2 => ?_)
    · replace hf := ite_t c2 hf
      refine lv_iconst (v := 0) hx hb dX3_isLetter_16 (by decide) ?_
      exact wk_zret S hr hlk hK hN hH rfl hf dX3_isLetter_17
    · replace hf := ite_f c2 hf
      refine lv_iconst (v := 1) hx hb dX3_isLetter_12 (by decide) ?_
      refine lv_goto (tgt := 17) hx hb dX3_isLetter_13 (by decide) ?_
      exact wk_zret S hr hlk hK hN hH rfl hf dX3_isLetter_17
set_option maxHeartbeats 4000000 in
set_option maxRecDepth 100000 in
theorem C_X3_signMeant (l : Launch) (X : Cx) (hI : Inj X) (a0 : Int32) (h : Hp) (r0 : Int32) (h0 : Hp) (hf : f_X3_signMeant a0 h = some (r0, h0)) : Mi l X yX3_signMeant cX3_signMeant 1 (some .int) 1 20 h [.int a0] r0 h0 := by
  refine BD_of (own := RX3) hI rfl (by decide) (Nat.le_of_ble_eq_true rfl) ?_
  intro p e s m args below meth c S hr hlk hK hN
  obtain ⟨hx, hb, hml, hown, hts⟩ := id S
  intro H locs ls hl hH
  replace hl : lv_has ls 1 [(0, .int a0)] := hl
  unfold f_X3_signMeant at hf
  refine lv_iload_n hx hb dX3_signMeant_0 rfl (lv_at hl 0 rfl) ?_
  obtain ⟨r3, h2, hq1, hf⟩ := bnd_ok hf
  refine wk_callSi (As := [.int a0]) (rest := []) S hK hN hH (C_X3_isLetter l X hI a0 _ _ _ hq1) (va_cwS 1 hts (gS wU_in m_276 m_277 m_36 m_278) rfl rfl rfl hdS_X3_isLetter ⟨Nat.le_of_ble_eq_true rfl, Nat.le_of_ble_eq_true rfl⟩) hl.1 rfl rfl (Nat.le_of_ble_eq_true rfl) dX3_signMeant_1 ⟨Nat.zero_le _, Nat.zero_le _⟩ (fun H locs hH => ?_)
  refine lv_if_eq (tgt := 14) hx hb dX3_signMeant_4 (by decide) (fun c4 => ?_) (fun c4 => ?_)
  · replace hf := ite_t c4 hf
    refine lv_iload_n hx hb dX3_signMeant_14 rfl (lv_at hl 0 rfl) ?_
    by_cases c5 : a0 = 42
    · replace hf := ite_t c5 hf
      refine lv_tableIn (off := 35) (tgt := 50) hx hb dX3_signMeant_15 (by rw [c5]; decide) (by rw [c5]; decide) (by rw [c5]; decide) (by decide) ?_
      refine lv_bipush (v := 6) hx hb dX3_signMeant_50 (by decide) ?_
      exact wk_iret S hr hlk hK hN hH hf dX3_signMeant_52
    replace hf := ite_f c5 hf
    by_cases c6 : a0 = 43
    · replace hf := ite_t c6 hf
      refine lv_tableIn (off := 41) (tgt := 56) hx hb dX3_signMeant_15 (by rw [c6]; decide) (by rw [c6]; decide) (by rw [c6]; decide) (by decide) ?_
      refine lv_iconst (v := (-1)) hx hb dX3_signMeant_56 (by decide) ?_
      exact wk_iret S hr hlk hK hN hH hf dX3_signMeant_57
    replace hf := ite_f c6 hf
    by_cases c7 : a0 = 44
    · replace hf := ite_t c7 hf
      refine lv_tableIn (off := 41) (tgt := 56) hx hb dX3_signMeant_15 (by rw [c7]; decide) (by rw [c7]; decide) (by rw [c7]; decide) (by decide) ?_
      refine lv_iconst (v := (-1)) hx hb dX3_signMeant_56 (by decide) ?_
      exact wk_iret S hr hlk hK hN hH hf dX3_signMeant_57
    replace hf := ite_f c7 hf
    by_cases c8 : a0 = 45
    · replace hf := ite_t c8 hf
      refine lv_tableIn (off := 33) (tgt := 48) hx hb dX3_signMeant_15 (by rw [c8]; decide) (by rw [c8]; decide) (by rw [c8]; decide) (by decide) ?_
      refine lv_iconst (v := 0) hx hb dX3_signMeant_48 (by decide) ?_
      exact wk_iret S hr hlk hK hN hH hf dX3_signMeant_49
    replace hf := ite_f c8 hf
    by_cases c9 : a0 = 46
    · replace hf := ite_t c9 hf
      refine lv_tableIn (off := 38) (tgt := 53) hx hb dX3_signMeant_15 (by rw [c9]; decide) (by rw [c9]; decide) (by rw [c9]; decide) (by decide) ?_
      refine lv_bipush (v := 7) hx hb dX3_signMeant_53 (by decide) ?_
      exact wk_iret S hr hlk hK hN hH hf dX3_signMeant_55
    replace hf := ite_f c9 hf
    have ec5 := lv_neT (a := 42) c5 (by decide)
    have ec6 := lv_neT (a := 43) c6 (by decide)
    have ec7 := lv_neT (a := 44) c7 (by decide)
    have ec8 := lv_neT (a := 45) c8 (by decide)
    have ec9 := lv_neT (a := 46) c9 (by decide)
    refine lv_tableOut (tgt := 56) hx hb dX3_signMeant_15 (by omega) (by decide) ?_
    refine lv_iconst (v := (-1)) hx hb dX3_signMeant_56 (by decide) ?_
    exact wk_iret S hr hlk hK hN hH hf dX3_signMeant_57
  · replace hf := ite_f c4 hf
    refine lv_iload_n hx hb dX3_signMeant_7 rfl (lv_at hl 0 rfl) ?_
    refine lv_bipush (v := 97) hx hb dX3_signMeant_8 (by decide) ?_
    refine lv_isub hx hb dX3_signMeant_10 ?_
    refine lv_iconst (v := 1) hx hb dX3_signMeant_11 (by decide) ?_
    refine lv_iadd hx hb dX3_signMeant_12 ?_
    exact wk_iret S hr hlk hK hN hH hf dX3_signMeant_13
set_option maxHeartbeats 4000000 in
set_option maxRecDepth 100000 in
theorem C_X3_addLetter (l : Launch) (X : Cx) (hI : Inj X) {a0 : Nat} (t0 : tY a0 = 3) {a1 : Nat} (t1 : tY a1 = 100) (a2 : Int32) (a3 : Int32) (a4 : Int32) (h : Hp) (r0 : Int32) (h0 : Hp) (hf : f_X3_addLetter a0 a1 a2 a3 a4 h = some (r0, h0)) : Mi l X yX3_addLetter cX3_addLetter 5 (some .boolean) 2 40 h [.ref (X.2.2.2 a0), .ref (X.2.2.2 a1), .int a2, .int a3, .int a4] r0 h0 := by
  refine BD_of (own := RX3) hI rfl (by decide) (Nat.le_of_ble_eq_true rfl) ?_
  intro p e s m args below meth c S hr hlk hK hN
  obtain ⟨hx, hb, hml, hown, hts⟩ := id S
  intro H locs ls hl hH
  replace hl : lv_has ls 5 [(0, .ref (X.2.2.2 a0)), (1, .ref (X.2.2.2 a1)), (2, .int a2), (3, .int a3), (4, .int a4)] := hl
  unfold f_X3_addLetter at hf
  refine lv_aload_n hx hb dX3_addLetter_0 rfl (lv_at hl 0 rfl) ?_
  refine wk_geti (ci := 3) (k := 12) S hK hH j_X3 t0 rfl hq_3_12 (hts _ (wU_in _ m_82)) dX3_addLetter_1 ?_
  refine lv_iload_n hx hb dX3_addLetter_4 rfl (lv_at hl 3 rfl) ?_
  refine lv_icmp_ge (tgt := 26) hx hb dX3_addLetter_5 (by decide) (fun c1 => ?_) (fun c1 => ?_)
  · replace hf := ite_t c1 hf
    refine lv_iconst (v := 0) hx hb dX3_addLetter_26 (by decide) ?_
    exact wk_zret S hr hlk hK hN hH rfl hf dX3_addLetter_27
  · replace hf := ite_f c1 hf
    refine lv_iload hx hb dX3_addLetter_8 (lv_at hl 4 rfl) ?_
    obtain ⟨r4, h3, hq2, hf⟩ := bnd_ok hf
    refine wk_callSi (As := [.int a4]) (rest := []) S hK hN hH (C_X3_isLetter l X hI a4 _ _ _ hq2) (va_cwS 1 hts (gS wU_in m_276 m_277 m_36 m_278) rfl rfl rfl hdS_X3_isLetter ⟨Nat.le_of_ble_eq_true rfl, Nat.le_of_ble_eq_true rfl⟩) hl.1 rfl rfl (Nat.le_of_ble_eq_true rfl) dX3_addLetter_10 ⟨Nat.zero_le _, Nat.zero_le _⟩ (fun H locs hH => ?_)
    refine lv_if_eq (tgt := 26) hx hb dX3_addLetter_13 (by decide) (fun c5 => ?_) (fun c5 => ?_)
    · replace hf := ite_t c5 hf
      refine lv_iconst (v := 0) hx hb dX3_addLetter_26 (by decide) ?_
      exact wk_zret S hr hlk hK hN hH rfl hf dX3_addLetter_27
    · replace hf := ite_f c5 hf
      refine lv_iload_n hx hb dX3_addLetter_16 rfl (lv_at hl 2 rfl) ?_
      refine lv_if_lt (tgt := 26) hx hb dX3_addLetter_17 (by decide) (fun c6 => ?_) (fun c6 => ?_)
      · replace hf := ite_t c6 hf
        refine lv_iconst (v := 0) hx hb dX3_addLetter_26 (by decide) ?_
        exact wk_zret S hr hlk hK hN hH rfl hf dX3_addLetter_27
      · replace hf := ite_f c6 hf
        refine lv_iload_n hx hb dX3_addLetter_20 rfl (lv_at hl 2 rfl) ?_
        refine lv_aload_n hx hb dX3_addLetter_21 rfl (lv_at hl 1 rfl) ?_
        refine wk_alen S hK hH t1 dX3_addLetter_22 ?_
        refine lv_icmp_lt (tgt := 28) hx hb dX3_addLetter_23 (by decide) (fun c7 => ?_) (fun c7 => ?_)
        · replace hf := ite_t c7 hf
          refine lv_aload_n hx hb dX3_addLetter_28 rfl (lv_at hl 1 rfl) ?_
          refine lv_iload_n hx hb dX3_addLetter_29 rfl (lv_at hl 2 rfl) ?_
          refine lv_bipush (v := 10) hx hb dX3_addLetter_30 (by decide) ?_
          refine lv_aload_n hx hb dX3_addLetter_32 rfl (lv_at hl 1 rfl) ?_
          refine lv_iload_n hx hb dX3_addLetter_33 rfl (lv_at hl 2 rfl) ?_
          obtain ⟨o8, hf⟩ := ite_ok hf
          refine wk_iald S hK hH t1 o8 dX3_addLetter_34 ?_
          refine lv_imul hx hb dX3_addLetter_35 ?_
          refine lv_iload hx hb dX3_addLetter_36 (lv_at hl 4 rfl) ?_
          obtain ⟨r11, h10, hq9, hf⟩ := bnd_ok hf
          refine wk_callSi (As := [.int a4]) (rest := [.int (((10 : Int32) * (h3.1 a1 (a2).toNatClampNeg))), .int a2, .ref (X.2.2.2 a1)]) S hK hN hH (C_X3_signMeant l X hI a4 _ _ _ hq9) (va_cwS 1 hts (gS wU_in m_287 m_288 m_36 m_289) rfl rfl rfl hdS_X3_signMeant ⟨Nat.le_of_ble_eq_true rfl, Nat.le_of_ble_eq_true rfl⟩) hl.1 rfl rfl (Nat.le_of_ble_eq_true rfl) dX3_addLetter_38 ⟨Nat.zero_le _, Nat.zero_le _⟩ (fun H locs hH => ?_)
          refine lv_iadd hx hb dX3_addLetter_41 ?_
          obtain ⟨o12, hf⟩ := ite_ok hf
          refine wk_iast S hK hH t1 o12 dX3_addLetter_42 (fun H locs hH => ?_)
          refine lv_iconst (v := 1) hx hb dX3_addLetter_43 (by decide) ?_
          exact wk_zret S hr hlk hK hN hH rfl hf dX3_addLetter_44
        · replace hf := ite_f c7 hf
          refine lv_iconst (v := 0) hx hb dX3_addLetter_26 (by decide) ?_
          exact wk_zret S hr hlk hK hN hH rfl hf dX3_addLetter_27
set_option maxHeartbeats 4000000 in
set_option maxRecDepth 100000 in
theorem C_X6_allowsSign (l : Launch) (X : Cx) (hI : Inj X) (a0 : Int32) (a1 : Int32) (h : Hp) (r0 : Int32) (h0 : Hp) (hf : f_X6_allowsSign a0 a1 h = some (r0, h0)) : Mi l X yX6_allowsSign cX6_allowsSign 2 (some .boolean) 0 0 h [.int a0, .int a1] r0 h0 := by
  refine BD_of (own := RX6) hI rfl (by decide) (Nat.le_of_ble_eq_true rfl) ?_
  intro p e s m args below meth c S hr hlk hK hN
  obtain ⟨hx, hb, hml, hown, hts⟩ := id S
  intro H locs ls hl hH
  replace hl : lv_has ls 2 [(0, .int a0), (1, .int a1)] := hl
  unfold f_X6_allowsSign at hf
  refine lv_iload_n hx hb dX6_allowsSign_0 rfl (lv_at hl 0 rfl) ?_
  by_cases c1 : a0 = 0
  · replace hf := ite_t c1 hf
    refine lv_tableIn (off := 31) (tgt := 32) hx hb dX6_allowsSign_1 (by rw [c1]; decide) (by rw [c1]; decide) (by rw [c1]; decide) (by decide) ?_
    refine lv_iload_n hx hb dX6_allowsSign_32 rfl (lv_at hl 1 rfl) ?_
    refine lv_iconst (v := 1) hx hb dX6_allowsSign_33 (by decide) ?_
    refine lv_icmp_lt (tgt := 46) hx hb dX6_allowsSign_34 (by decide) (fun c2 => ?_) (fun c2 => ?_)
    · replace hf := ite_t c2 hf
      refine lv_iconst (v := 0) hx hb dX6_allowsSign_46 (by decide) ?_
      exact wk_zret S hr hlk hK hN hH rfl hf dX6_allowsSign_47
    · replace hf := ite_f c2 hf
      refine lv_iload_n hx hb dX6_allowsSign_37 rfl (lv_at hl 1 rfl) ?_
      refine lv_iconst (v := 5) hx hb dX6_allowsSign_38 (by decide) ?_
      refine lv_icmp_gt (tgt := 46) hx hb dX6_allowsSign_39 (by decide) (fun c3 => ?_) (fun c3 => ?_)
      · replace hf := ite_t c3 hf
        refine lv_iconst (v := 0) hx hb dX6_allowsSign_46 (by decide) ?_
        exact wk_zret S hr hlk hK hN hH rfl hf dX6_allowsSign_47
      · replace hf := ite_f c3 hf
        refine lv_iconst (v := 1) hx hb dX6_allowsSign_42 (by decide) ?_
        refine lv_goto (tgt := 47) hx hb dX6_allowsSign_43 (by decide) ?_
        exact wk_zret S hr hlk hK hN hH rfl hf dX6_allowsSign_47
  replace hf := ite_f c1 hf
  by_cases c4 : a0 = 1
  · replace hf := ite_t c4 hf
    refine lv_tableIn (off := 47) (tgt := 48) hx hb dX6_allowsSign_1 (by rw [c4]; decide) (by rw [c4]; decide) (by rw [c4]; decide) (by decide) ?_
    refine lv_iload_n hx hb dX6_allowsSign_48 rfl (lv_at hl 1 rfl) ?_
    refine lv_if_lt (tgt := 61) hx hb dX6_allowsSign_49 (by decide) (fun c5 => ?_) (fun c5 => ?_)
    · replace hf := ite_t c5 hf
      refine lv_iconst (v := 0) hx hb dX6_allowsSign_61 (by decide) ?_
      exact wk_zret S hr hlk hK hN hH rfl hf dX6_allowsSign_62
    · replace hf := ite_f c5 hf
      refine lv_iload_n hx hb dX6_allowsSign_52 rfl (lv_at hl 1 rfl) ?_
      refine lv_iconst (v := 5) hx hb dX6_allowsSign_53 (by decide) ?_
      refine lv_icmp_gt (tgt := 61) hx hb dX6_allowsSign_54 (by decide) (fun c6 => ?_) (fun c6 => ?_)
      · replace hf := ite_t c6 hf
        refine lv_iconst (v := 0) hx hb dX6_allowsSign_61 (by decide) ?_
        exact wk_zret S hr hlk hK hN hH rfl hf dX6_allowsSign_62
      · replace hf := ite_f c6 hf
        refine lv_iconst (v := 1) hx hb dX6_allowsSign_57 (by decide) ?_
        refine lv_goto (tgt := 62) hx hb dX6_allowsSign_58 (by decide) ?_
        exact wk_zret S hr hlk hK hN hH rfl hf dX6_allowsSign_62
  replace hf := ite_f c4 hf
  by_cases c7 : a0 = 2
  · replace hf := ite_t c7 hf
    refine lv_tableIn (off := 62) (tgt := 63) hx hb dX6_allowsSign_1 (by rw [c7]; decide) (by rw [c7]; decide) (by rw [c7]; decide) (by decide) ?_
    refine lv_iload_n hx hb dX6_allowsSign_63 rfl (lv_at hl 1 rfl) ?_
    refine lv_iconst (v := 1) hx hb dX6_allowsSign_64 (by decide) ?_
    refine lv_icmp_lt (tgt := 78) hx hb dX6_allowsSign_65 (by decide) (fun c8 => ?_) (fun c8 => ?_)
    · replace hf := ite_t c8 hf
      refine lv_iconst (v := 0) hx hb dX6_allowsSign_78 (by decide) ?_
      exact wk_zret S hr hlk hK hN hH rfl hf dX6_allowsSign_79
    · replace hf := ite_f c8 hf
      refine lv_iload_n hx hb dX6_allowsSign_68 rfl (lv_at hl 1 rfl) ?_
      refine lv_bipush (v := 7) hx hb dX6_allowsSign_69 (by decide) ?_
      refine lv_icmp_gt (tgt := 78) hx hb dX6_allowsSign_71 (by decide) (fun c9 => ?_) (fun c9 => ?_)
      · replace hf := ite_t c9 hf
        refine lv_iconst (v := 0) hx hb dX6_allowsSign_78 (by decide) ?_
        exact wk_zret S hr hlk hK hN hH rfl hf dX6_allowsSign_79
      · replace hf := ite_f c9 hf
        refine lv_iconst (v := 1) hx hb dX6_allowsSign_74 (by decide) ?_
        refine lv_goto (tgt := 79) hx hb dX6_allowsSign_75 (by decide) ?_
        exact wk_zret S hr hlk hK hN hH rfl hf dX6_allowsSign_79
  replace hf := ite_f c7 hf
  by_cases c10 : a0 = 3
  · replace hf := ite_t c10 hf
    refine lv_tableIn (off := 62) (tgt := 63) hx hb dX6_allowsSign_1 (by rw [c10]; decide) (by rw [c10]; decide) (by rw [c10]; decide) (by decide) ?_
    refine lv_iload_n hx hb dX6_allowsSign_63 rfl (lv_at hl 1 rfl) ?_
    refine lv_iconst (v := 1) hx hb dX6_allowsSign_64 (by decide) ?_
    refine lv_icmp_lt (tgt := 78) hx hb dX6_allowsSign_65 (by decide) (fun c11 => ?_) (fun c11 => ?_)
    · replace hf := ite_t c11 hf
      refine lv_iconst (v := 0) hx hb dX6_allowsSign_78 (by decide) ?_
      exact wk_zret S hr hlk hK hN hH rfl hf dX6_allowsSign_79
    · replace hf := ite_f c11 hf
      refine lv_iload_n hx hb dX6_allowsSign_68 rfl (lv_at hl 1 rfl) ?_
      refine lv_bipush (v := 7) hx hb dX6_allowsSign_69 (by decide) ?_
      refine lv_icmp_gt (tgt := 78) hx hb dX6_allowsSign_71 (by decide) (fun c12 => ?_) (fun c12 => ?_)
      · replace hf := ite_t c12 hf
        refine lv_iconst (v := 0) hx hb dX6_allowsSign_78 (by decide) ?_
        exact wk_zret S hr hlk hK hN hH rfl hf dX6_allowsSign_79
      · replace hf := ite_f c12 hf
        refine lv_iconst (v := 1) hx hb dX6_allowsSign_74 (by decide) ?_
        refine lv_goto (tgt := 79) hx hb dX6_allowsSign_75 (by decide) ?_
        exact wk_zret S hr hlk hK hN hH rfl hf dX6_allowsSign_79
  replace hf := ite_f c10 hf
  have ec1 := lv_neT (a := 0) c1 (by decide)
  have ec4 := lv_neT (a := 1) c4 (by decide)
  have ec7 := lv_neT (a := 2) c7 (by decide)
  have ec10 := lv_neT (a := 3) c10 (by decide)
  refine lv_tableOut (tgt := 80) hx hb dX6_allowsSign_1 (by omega) (by decide) ?_
  refine lv_iconst (v := 0) hx hb dX6_allowsSign_80 (by decide) ?_
  exact wk_zret S hr hlk hK hN hH rfl hf dX6_allowsSign_81
set_option maxHeartbeats 4000000 in
set_option maxRecDepth 100000 in
theorem C_X3_addSign (l : Launch) (X : Cx) (hI : Inj X) {a0 : Nat} (t0 : tY a0 = 3) (a1 : Int32) (h : Hp) (r0 : Int32) (h0 : Hp) (hf : f_X3_addSign a0 a1 h = some (r0, h0)) : Mi l X yX3_addSign cX3_addSign 4 (some .boolean) 2 40 h [.ref (X.2.2.2 a0), .int a1] r0 h0 := by
  refine BD_of (own := RX3) hI rfl (by decide) (Nat.le_of_ble_eq_true rfl) ?_
  intro p e s m args below meth c S hr hlk hK hN
  obtain ⟨hx, hb, hml, hown, hts⟩ := id S
  intro H locs ls hl hH
  replace hl : lv_has ls 4 [(0, .ref (X.2.2.2 a0)), (1, .int a1)] := hl
  unfold f_X3_addSign at hf
  refine lv_iload_n hx hb dX3_addSign_0 rfl (lv_at hl 1 rfl) ?_
  obtain ⟨r3, h2, hq1, hf⟩ := bnd_ok hf
  refine wk_callSi (As := [.int a1]) (rest := []) S hK hN hH (C_X3_signMeant l X hI a1 _ _ _ hq1) (va_cwS 1 hts (gS wU_in m_287 m_288 m_36 m_289) rfl rfl rfl hdS_X3_signMeant ⟨Nat.le_of_ble_eq_true rfl, Nat.le_of_ble_eq_true rfl⟩) hl.1 rfl rfl (Nat.le_of_ble_eq_true rfl) dX3_addSign_1 ⟨Nat.zero_le _, Nat.zero_le _⟩ (fun H locs hH => ?_)
  refine lv_istore_n (lv' := [(2, .int r3), (0, .ref (X.2.2.2 a0)), (1, .int a1)]) hx hb dX3_addSign_4 rfl hl (by decide) rfl (fun ls hl => ?_)
  refine lv_aload_n hx hb dX3_addSign_5 rfl (lv_at hl 1 rfl) ?_
  refine wk_geti (ci := 3) (k := 7) S hK hH j_X3 t0 rfl hq_3_7 (hts _ (wU_in _ m_74)) dX3_addSign_6 ?_
  refine lv_iconst (v := 1) hx hb dX3_addSign_9 (by decide) ?_
  refine lv_isub hx hb dX3_addSign_10 ?_
  refine lv_iconst (v := 4) hx hb dX3_addSign_11 (by decide) ?_
  refine lv_imul hx hb dX3_addSign_12 ?_
  refine lv_aload_n hx hb dX3_addSign_13 rfl (lv_at hl 1 rfl) ?_
  refine wk_geti (ci := 3) (k := 12) S hK hH j_X3 t0 rfl hq_3_12 (hts _ (wU_in _ m_82)) dX3_addSign_14 ?_
  refine lv_iadd hx hb dX3_addSign_17 ?_
  refine lv_istore_n (lv' := [(3, .int (((((h2.1 a0 7) - (1 : Int32)) * (4 : Int32)) + (h2.1 a0 12)))), (2, .int r3), (0, .ref (X.2.2.2 a0)), (1, .int a1)]) hx hb dX3_addSign_18 rfl hl (by decide) rfl (fun ls hl => ?_)
  refine lv_aload_n hx hb dX3_addSign_19 rfl (lv_at hl 2 rfl) ?_
  refine wk_geti (ci := 3) (k := 12) S hK hH j_X3 t0 rfl hq_3_12 (hts _ (wU_in _ m_82)) dX3_addSign_20 ?_
  refine lv_iload_n hx hb dX3_addSign_23 rfl (lv_at hl 1 rfl) ?_
  obtain ⟨r6, h5, hq4, hf⟩ := bnd_ok hf
  refine wk_callSNi (As := [.int ((h2.1 a0 12)), .int r3]) (rest := []) S hK hN hH (C_X6_allowsSign l X hI (h2.1 a0 12) r3 _ _ _ hq4) ⟨va_cnB 2 hts (wU_good wU_in m_296) rfl rfl rfl (hN _ n_294) (hts _ (wU_in _ m_35)) hdS_X6_allowsSign ⟨Nat.le_of_ble_eq_true rfl, Nat.le_of_ble_eq_true rfl⟩, hts _ (wU_in _ m_295), trivial⟩ hl.1 rfl rfl (Nat.le_of_ble_eq_true rfl) dX3_addSign_24 ⟨Nat.zero_le _, Nat.zero_le _⟩ (fun H locs hH => ?_)
  refine lv_if_eq (tgt := 43) hx hb dX3_addSign_27 (by decide) (fun c7 => ?_) (fun c7 => ?_)
  · replace hf := ite_t c7 hf
    refine lv_iconst (v := 0) hx hb dX3_addSign_43 (by decide) ?_
    exact wk_zret S hr hlk hK hN hH rfl hf dX3_addSign_44
  · replace hf := ite_f c7 hf
    refine lv_iload_n hx hb dX3_addSign_30 rfl (lv_at hl 0 rfl) ?_
    refine lv_if_lt (tgt := 43) hx hb dX3_addSign_31 (by decide) (fun c8 => ?_) (fun c8 => ?_)
    · replace hf := ite_t c8 hf
      refine lv_iconst (v := 0) hx hb dX3_addSign_43 (by decide) ?_
      exact wk_zret S hr hlk hK hN hH rfl hf dX3_addSign_44
    · replace hf := ite_f c8 hf
      refine lv_iload_n hx hb dX3_addSign_34 rfl (lv_at hl 0 rfl) ?_
      refine lv_aload_n hx hb dX3_addSign_35 rfl (lv_at hl 2 rfl) ?_
      refine wk_getr (ci := 3) (k := 4) S hK hH j_X3 t0 rfl hq_3_4 (hts _ (wU_in _ m_67)) dX3_addSign_36 ?_
      refine wk_alen S hK hH (tr_3_4 t0) dX3_addSign_39 ?_
      refine lv_icmp_lt (tgt := 45) hx hb dX3_addSign_40 (by decide) (fun c9 => ?_) (fun c9 => ?_)
      · replace hf := ite_t c9 hf
        refine lv_aload_n hx hb dX3_addSign_45 rfl (lv_at hl 2 rfl) ?_
        refine wk_getr (ci := 3) (k := 4) S hK hH j_X3 t0 rfl hq_3_4 (hts _ (wU_in _ m_67)) dX3_addSign_46 ?_
        refine lv_iload_n hx hb dX3_addSign_49 rfl (lv_at hl 0 rfl) ?_
        refine lv_iload_n hx hb dX3_addSign_50 rfl (lv_at hl 1 rfl) ?_
        obtain ⟨o10, hf⟩ := ite_ok hf
        refine wk_iast S hK hH (tr_3_4 t0) o10 dX3_addSign_51 (fun H locs hH => ?_)
        refine lv_iconst (v := 1) hx hb dX3_addSign_52 (by decide) ?_
        exact wk_zret S hr hlk hK hN hH rfl hf dX3_addSign_53
      · replace hf := ite_f c9 hf
        refine lv_iconst (v := 0) hx hb dX3_addSign_43 (by decide) ?_
        exact wk_zret S hr hlk hK hN hH rfl hf dX3_addSign_44
set_option maxHeartbeats 4000000 in
set_option maxRecDepth 100000 in
theorem C_X3_goOnWith (l : Launch) (X : Cx) (hI : Inj X) {a0 : Nat} (t0 : tY a0 = 3) (a1 : Int32) (h : Hp) (r0 : Int32) (h0 : Hp) (hf : f_X3_goOnWith a0 a1 h = some (r0, h0)) : Mi l X yX3_goOnWith cX3_goOnWith 3 (some .boolean) 3 64 h [.ref (X.2.2.2 a0), .int a1] r0 h0 := by
  refine BD_of (own := RX3) hI rfl (by decide) (Nat.le_of_ble_eq_true rfl) ?_
  intro p e s m args below meth c S hr hlk hK hN
  obtain ⟨hx, hb, hml, hown, hts⟩ := id S
  have B76 : ∀ (x2 : Int32) (z0 : Nat) (tz0 : tY z0 = 3) (z1 : Int32) (z2 : Int32) (h : Hp), g_X3_goOnWith_76 a0 a1 x2 z0 z1 z2 h = some (r0, h0) → BK p l e ({ frames := 3, cells := 0, slots := 0, locals := 64 }) s m args below meth c (MQ below (cQi X r0 h0) args s 0 0 (AD X)) X 3 76 [(2, .int x2)] [.int z2, .int z1, .ref (X.2.2.2 z0)] h := by
    intro x2 z0 tz0 z1 z2 h hf H locs ls hl hH
    unfold g_X3_goOnWith_76 at hf
    refine lv_iadd hx hb dX3_goOnWith_76 ?_
    refine wk_puti (ci := 3) (k := 12) S hK hH j_X3 tyX3 tyX3_ok nmX3 tz0 rfl hq_3_12 rfl hd_3_12 (hts _ (wU_in _ m_82)) dX3_goOnWith_77 (fun H locs hH => ?_)
    refine lv_iload_n hx hb dX3_goOnWith_80 rfl (lv_at hl 0 rfl) ?_
    obtain ⟨o1, hf⟩ := ite_ok hf
    exact wk_zret S hr hlk hK hN hH (okZ_nar o1) hf dX3_goOnWith_81
  have B62 : ∀ (x2 : Int32) (h : Hp), g_X3_goOnWith_62 a0 a1 x2 h = some (r0, h0) → BK p l e ({ frames := 3, cells := 0, slots := 0, locals := 64 }) s m args below meth c (MQ below (cQi X r0 h0) args s 0 0 (AD X)) X 3 62 [(0, .ref (X.2.2.2 a0)), (2, .int x2)] [] h := by
    intro x2 h hf H locs ls hl hH
    unfold g_X3_goOnWith_62 at hf
    refine lv_aload_n hx hb dX3_goOnWith_62 rfl (lv_at hl 0 rfl) ?_
    refine lv_dup hx hb dX3_goOnWith_63 rfl ?_
    refine wk_geti (ci := 3) (k := 12) S hK hH j_X3 t0 rfl hq_3_12 (hts _ (wU_in _ m_82)) dX3_goOnWith_64 ?_
    refine lv_iload_n hx hb dX3_goOnWith_67 rfl (lv_at hl 1 rfl) ?_
    refine lv_if_eq (tgt := 75) hx hb dX3_goOnWith_68 (by decide) (fun c2 => ?_) (fun c2 => ?_)
    · replace hf := ite_t c2 hf
      refine lv_iconst (v := 0) hx hb dX3_goOnWith_75 (by decide) ?_
      exact B76 _ _ t0 _ _ _ hf H locs ls (lv_sub hl [1] rfl) hH
    · replace hf := ite_f c2 hf
      refine lv_iconst (v := 1) hx hb dX3_goOnWith_71 (by decide) ?_
      refine lv_goto (tgt := 76) hx hb dX3_goOnWith_72 (by decide) ?_
      exact B76 _ _ t0 _ _ _ hf H locs ls (lv_sub hl [1] rfl) hH
  intro H locs ls hl hH
  replace hl : lv_has ls 3 [(0, .ref (X.2.2.2 a0)), (1, .int a1)] := hl
  unfold f_X3_goOnWith at hf
  refine lv_aload_n hx hb dX3_goOnWith_0 rfl (lv_at hl 0 rfl) ?_
  refine wk_geti (ci := 3) (k := 11) S hK hH j_X3 t0 rfl hq_3_11 (hts _ (wU_in _ m_81)) dX3_goOnWith_1 ?_
  refine lv_iconst (v := 1) hx hb dX3_goOnWith_4 (by decide) ?_
  refine lv_icmp_ne (tgt := 28) hx hb dX3_goOnWith_5 (by decide) (fun c3 => ?_) (fun c3 => ?_)
  · replace hf := ite_f c3 hf
    refine lv_aload_n hx hb dX3_goOnWith_28 rfl (lv_at hl 0 rfl) ?_
    refine wk_geti (ci := 3) (k := 11) S hK hH j_X3 t0 rfl hq_3_11 (hts _ (wU_in _ m_81)) dX3_goOnWith_29 ?_
    refine lv_iconst (v := 2) hx hb dX3_goOnWith_32 (by decide) ?_
    refine lv_icmp_ne (tgt := 56) hx hb dX3_goOnWith_33 (by decide) (fun c4 => ?_) (fun c4 => ?_)
    · replace hf := ite_f c4 hf
      refine lv_aload_n hx hb dX3_goOnWith_56 rfl (lv_at hl 0 rfl) ?_
      refine lv_iload_n hx hb dX3_goOnWith_57 rfl (lv_at hl 1 rfl) ?_
      obtain ⟨r7, h6, hq5, hf⟩ := bnd_ok hf
      refine wk_callVi (ci := 3) (b := a0) (As := [.int a1]) (rest := []) S hK hN hH t0 (by decide) rfl (C_X3_addSign l X hI t0 a1 _ _ _ hq5) (cwV 1 hts (gV wU_in m_290 m_292 m_5 m_36 m_293) rfl rfl rfl hdV_X3_addSign ⟨Nat.le_of_ble_eq_true rfl, Nat.le_of_ble_eq_true rfl⟩) hl.1 rfl rfl (Nat.le_of_ble_eq_true rfl) dX3_goOnWith_58 ⟨Nat.zero_le _, Nat.zero_le _⟩ (fun H locs hH => ?_)
      refine lv_istore_n (lv' := [(2, .int r7), (0, .ref (X.2.2.2 a0)), (1, .int a1)]) hx hb dX3_goOnWith_61 rfl hl (by decide) rfl (fun ls hl => ?_)
      exact B62 _ _ hf H locs ls (lv_sub hl [1, 0] rfl) hH
    · replace hf := ite_t c4 hf
      refine lv_aload_n hx hb dX3_goOnWith_36 rfl (lv_at hl 0 rfl) ?_
      refine lv_aload_n hx hb dX3_goOnWith_37 rfl (lv_at hl 0 rfl) ?_
      refine wk_getr (ci := 3) (k := 3) S hK hH j_X3 t0 rfl hq_3_3 (hts _ (wU_in _ m_65)) dX3_goOnWith_38 ?_
      refine lv_aload_n hx hb dX3_goOnWith_41 rfl (lv_at hl 0 rfl) ?_
      refine wk_geti (ci := 3) (k := 6) S hK hH j_X3 t0 rfl hq_3_6 (hts _ (wU_in _ m_72)) dX3_goOnWith_42 ?_
      refine lv_iconst (v := 1) hx hb dX3_goOnWith_45 (by decide) ?_
      refine lv_isub hx hb dX3_goOnWith_46 ?_
      refine lv_iconst (v := 2) hx hb dX3_goOnWith_47 (by decide) ?_
      refine lv_iload_n hx hb dX3_goOnWith_48 rfl (lv_at hl 1 rfl) ?_
      obtain ⟨r10, h9, hq8, hf⟩ := bnd_ok hf
      refine wk_callVi (ci := 3) (b := a0) (As := [.ref (X.2.2.2 (rF a0 3)), .int (((h.1 a0 6) - (1 : Int32))), .int ((2 : Int32)), .int a1]) (rest := []) S hK hN hH t0 (by decide) rfl (C_X3_addLetter l X hI t0 (tr_3_3 t0) ((h.1 a0 6) - (1 : Int32)) (2 : Int32) a1 _ _ _ hq8) (cwV 4 hts (gV wU_in m_283 m_285 m_4 m_36 m_286) rfl rfl rfl hdV_X3_addLetter ⟨Nat.le_of_ble_eq_true rfl, Nat.le_of_ble_eq_true rfl⟩) hl.1 rfl rfl (Nat.le_of_ble_eq_true rfl) dX3_goOnWith_49 ⟨Nat.zero_le _, Nat.zero_le _⟩ (fun H locs hH => ?_)
      refine lv_istore_n (lv' := [(2, .int r10), (0, .ref (X.2.2.2 a0)), (1, .int a1)]) hx hb dX3_goOnWith_52 rfl hl (by decide) rfl (fun ls hl => ?_)
      refine lv_goto (tgt := 62) hx hb dX3_goOnWith_53 (by decide) ?_
      exact B62 _ _ hf H locs ls (lv_sub hl [1, 0] rfl) hH
  · replace hf := ite_t c3 hf
    refine lv_aload_n hx hb dX3_goOnWith_8 rfl (lv_at hl 0 rfl) ?_
    refine lv_aload_n hx hb dX3_goOnWith_9 rfl (lv_at hl 0 rfl) ?_
    refine wk_getr (ci := 3) (k := 2) S hK hH j_X3 t0 rfl hq_3_2 (hts _ (wU_in _ m_63)) dX3_goOnWith_10 ?_
    refine lv_aload_n hx hb dX3_goOnWith_13 rfl (lv_at hl 0 rfl) ?_
    refine wk_geti (ci := 3) (k := 5) S hK hH j_X3 t0 rfl hq_3_5 (hts _ (wU_in _ m_70)) dX3_goOnWith_14 ?_
    refine lv_iconst (v := 1) hx hb dX3_goOnWith_17 (by decide) ?_
    refine lv_isub hx hb dX3_goOnWith_18 ?_
    refine lv_iconst (v := 4) hx hb dX3_goOnWith_19 (by decide) ?_
    refine lv_iload_n hx hb dX3_goOnWith_20 rfl (lv_at hl 1 rfl) ?_
    obtain ⟨r13, h12, hq11, hf⟩ := bnd_ok hf
    refine wk_callVi (ci := 3) (b := a0) (As := [.ref (X.2.2.2 (rF a0 2)), .int (((h.1 a0 5) - (1 : Int32))), .int ((4 : Int32)), .int a1]) (rest := []) S hK hN hH t0 (by decide) rfl (C_X3_addLetter l X hI t0 (tr_3_2 t0) ((h.1 a0 5) - (1 : Int32)) (4 : Int32) a1 _ _ _ hq11) (cwV 4 hts (gV wU_in m_283 m_285 m_4 m_36 m_286) rfl rfl rfl hdV_X3_addLetter ⟨Nat.le_of_ble_eq_true rfl, Nat.le_of_ble_eq_true rfl⟩) hl.1 rfl rfl (Nat.le_of_ble_eq_true rfl) dX3_goOnWith_21 ⟨Nat.zero_le _, Nat.zero_le _⟩ (fun H locs hH => ?_)
    refine lv_istore_n (lv' := [(2, .int r13), (0, .ref (X.2.2.2 a0)), (1, .int a1)]) hx hb dX3_goOnWith_24 rfl hl (by decide) rfl (fun ls hl => ?_)
    refine lv_goto (tgt := 62) hx hb dX3_goOnWith_25 (by decide) ?_
    exact B62 _ _ hf H locs ls (lv_sub hl [1, 0] rfl) hH
set_option maxHeartbeats 4000000 in
set_option maxRecDepth 100000 in
theorem C_X3_beginPart (l : Launch) (X : Cx) (hI : Inj X) {a0 : Nat} (t0 : tY a0 = 3) (a1 : Int32) (h : Hp) (r0 : Int32) (h0 : Hp) (hf : f_X3_beginPart a0 a1 h = some (r0, h0)) : Mi l X yX3_beginPart cX3_beginPart 2 (some .boolean) 0 0 h [.ref (X.2.2.2 a0), .int a1] r0 h0 := by
  refine BD_of (own := RX3) hI rfl (by decide) (Nat.le_of_ble_eq_true rfl) ?_
  intro p e s m args below meth c S hr hlk hK hN
  obtain ⟨hx, hb, hml, hown, hts⟩ := id S
  have B118 : ∀ (h : Hp), g_X3_beginPart_118 a0 a1 h = some (r0, h0) → BK p l e ({ frames := 0, cells := 0, slots := 0, locals := 0 }) s m args below meth c (MQ below (cQi X r0 h0) args s 0 0 (AD X)) X 2 118 [(0, .ref (X.2.2.2 a0))] [] h := by
    intro h hf H locs ls hl hH
    unfold g_X3_beginPart_118 at hf
    refine lv_aload_n hx hb dX3_beginPart_118 rfl (lv_at hl 0 rfl) ?_
    refine lv_iconst (v := 0) hx hb dX3_beginPart_119 (by decide) ?_
    refine wk_puti (ci := 3) (k := 12) S hK hH j_X3 tyX3 tyX3_ok nmX3 t0 rfl hq_3_12 rfl hd_3_12 (hts _ (wU_in _ m_82)) dX3_beginPart_120 (fun H locs hH => ?_)
    refine lv_aload_n hx hb dX3_beginPart_123 rfl (lv_at hl 0 rfl) ?_
    refine lv_dup hx hb dX3_beginPart_124 rfl ?_
    refine wk_geti (ci := 3) (k := 8) S hK hH j_X3 t0 rfl hq_3_8 (hts _ (wU_in _ m_75)) dX3_beginPart_125 ?_
    refine lv_iconst (v := 1) hx hb dX3_beginPart_128 (by decide) ?_
    refine lv_iadd hx hb dX3_beginPart_129 ?_
    refine wk_puti (ci := 3) (k := 8) S hK hH j_X3 tyX3 tyX3_ok nmX3 t0 rfl hq_3_8 rfl hd_3_8 (hts _ (wU_in _ m_75)) dX3_beginPart_130 (fun H locs hH => ?_)
    refine lv_iconst (v := 1) hx hb dX3_beginPart_133 (by decide) ?_
    exact wk_zret S hr hlk hK hN hH rfl hf dX3_beginPart_134
  have B84 : ∀ (h : Hp), g_X3_beginPart_84 a0 a1 h = some (r0, h0) → BK p l e ({ frames := 0, cells := 0, slots := 0, locals := 0 }) s m args below meth c (MQ below (cQi X r0 h0) args s 0 0 (AD X)) X 2 84 [(0, .ref (X.2.2.2 a0)), (1, .int a1)] [] h := by
    intro h hf H locs ls hl hH
    unfold g_X3_beginPart_84 at hf
    refine lv_iload_n hx hb dX3_beginPart_84 rfl (lv_at hl 1 rfl) ?_
    refine lv_bipush (v := 67) hx hb dX3_beginPart_85 (by decide) ?_
    refine lv_icmp_ne (tgt := 116) hx hb dX3_beginPart_87 (by decide) (fun c1 => ?_) (fun c1 => ?_)
    · replace hf := ite_f c1 hf
      refine lv_iconst (v := 0) hx hb dX3_beginPart_116 (by decide) ?_
      exact wk_zret S hr hlk hK hN hH rfl hf dX3_beginPart_117
    · replace hf := ite_t c1 hf
      refine lv_aload_n hx hb dX3_beginPart_90 rfl (lv_at hl 0 rfl) ?_
      refine wk_geti (ci := 3) (k := 7) S hK hH j_X3 t0 rfl hq_3_7 (hts _ (wU_in _ m_74)) dX3_beginPart_91 ?_
      refine lv_iconst (v := 4) hx hb dX3_beginPart_94 (by decide) ?_
      refine lv_icmp_ge (tgt := 116) hx hb dX3_beginPart_95 (by decide) (fun c2 => ?_) (fun c2 => ?_)
      · replace hf := ite_t c2 hf
        refine lv_iconst (v := 0) hx hb dX3_beginPart_116 (by decide) ?_
        exact wk_zret S hr hlk hK hN hH rfl hf dX3_beginPart_117
      · replace hf := ite_f c2 hf
        refine lv_aload_n hx hb dX3_beginPart_98 rfl (lv_at hl 0 rfl) ?_
        refine lv_dup hx hb dX3_beginPart_99 rfl ?_
        refine wk_geti (ci := 3) (k := 7) S hK hH j_X3 t0 rfl hq_3_7 (hts _ (wU_in _ m_74)) dX3_beginPart_100 ?_
        refine lv_iconst (v := 1) hx hb dX3_beginPart_103 (by decide) ?_
        refine lv_iadd hx hb dX3_beginPart_104 ?_
        refine wk_puti (ci := 3) (k := 7) S hK hH j_X3 tyX3 tyX3_ok nmX3 t0 rfl hq_3_7 rfl hd_3_7 (hts _ (wU_in _ m_74)) dX3_beginPart_105 (fun H locs hH => ?_)
        refine lv_aload_n hx hb dX3_beginPart_108 rfl (lv_at hl 0 rfl) ?_
        refine lv_iconst (v := 3) hx hb dX3_beginPart_109 (by decide) ?_
        refine wk_puti (ci := 3) (k := 11) S hK hH j_X3 tyX3 tyX3_ok nmX3 t0 rfl hq_3_11 rfl hd_3_11 (hts _ (wU_in _ m_81)) dX3_beginPart_110 (fun H locs hH => ?_)
        refine lv_goto (tgt := 118) hx hb dX3_beginPart_113 (by decide) ?_
        exact B118 _ hf H locs ls (lv_sub hl [0] rfl) hH
  have B42 : ∀ (h : Hp), g_X3_beginPart_42 a0 a1 h = some (r0, h0) → BK p l e ({ frames := 0, cells := 0, slots := 0, locals := 0 }) s m args below meth c (MQ below (cQi X r0 h0) args s 0 0 (AD X)) X 2 42 [(0, .ref (X.2.2.2 a0)), (1, .int a1)] [] h := by
    intro h hf H locs ls hl hH
    unfold g_X3_beginPart_42 at hf
    refine lv_iload_n hx hb dX3_beginPart_42 rfl (lv_at hl 1 rfl) ?_
    refine lv_bipush (v := 69) hx hb dX3_beginPart_43 (by decide) ?_
    refine lv_icmp_ne (tgt := 84) hx hb dX3_beginPart_45 (by decide) (fun c3 => ?_) (fun c3 => ?_)
    · replace hf := ite_f c3 hf
      exact B84 _ hf H locs ls (lv_sub hl [0, 1] rfl) hH
    · replace hf := ite_t c3 hf
      refine lv_aload_n hx hb dX3_beginPart_48 rfl (lv_at hl 0 rfl) ?_
      refine wk_geti (ci := 3) (k := 6) S hK hH j_X3 t0 rfl hq_3_6 (hts _ (wU_in _ m_72)) dX3_beginPart_49 ?_
      refine lv_iconst (v := 3) hx hb dX3_beginPart_52 (by decide) ?_
      refine lv_icmp_ge (tgt := 84) hx hb dX3_beginPart_53 (by decide) (fun c4 => ?_) (fun c4 => ?_)
      · replace hf := ite_t c4 hf
        exact B84 _ hf H locs ls (lv_sub hl [0, 1] rfl) hH
      · replace hf := ite_f c4 hf
        refine lv_aload_n hx hb dX3_beginPart_56 rfl (lv_at hl 0 rfl) ?_
        refine wk_getr (ci := 3) (k := 3) S hK hH j_X3 t0 rfl hq_3_3 (hts _ (wU_in _ m_65)) dX3_beginPart_57 ?_
        refine lv_aload_n hx hb dX3_beginPart_60 rfl (lv_at hl 0 rfl) ?_
        refine wk_geti (ci := 3) (k := 6) S hK hH j_X3 t0 rfl hq_3_6 (hts _ (wU_in _ m_72)) dX3_beginPart_61 ?_
        refine lv_iconst (v := 0) hx hb dX3_beginPart_64 (by decide) ?_
        obtain ⟨o5, hf⟩ := ite_ok hf
        refine wk_iast S hK hH (tr_3_3 t0) o5 dX3_beginPart_65 (fun H locs hH => ?_)
        refine lv_aload_n hx hb dX3_beginPart_66 rfl (lv_at hl 0 rfl) ?_
        refine lv_dup hx hb dX3_beginPart_67 rfl ?_
        refine wk_geti (ci := 3) (k := 6) S hK hH j_X3 t0 rfl hq_3_6 (hts _ (wU_in _ m_72)) dX3_beginPart_68 ?_
        refine lv_iconst (v := 1) hx hb dX3_beginPart_71 (by decide) ?_
        refine lv_iadd hx hb dX3_beginPart_72 ?_
        refine wk_puti (ci := 3) (k := 6) S hK hH j_X3 tyX3 tyX3_ok nmX3 t0 rfl hq_3_6 rfl hd_3_6 (hts _ (wU_in _ m_72)) dX3_beginPart_73 (fun H locs hH => ?_)
        refine lv_aload_n hx hb dX3_beginPart_76 rfl (lv_at hl 0 rfl) ?_
        refine lv_iconst (v := 2) hx hb dX3_beginPart_77 (by decide) ?_
        refine wk_puti (ci := 3) (k := 11) S hK hH j_X3 tyX3 tyX3_ok nmX3 t0 rfl hq_3_11 rfl hd_3_11 (hts _ (wU_in _ m_81)) dX3_beginPart_78 (fun H locs hH => ?_)
        refine lv_goto (tgt := 118) hx hb dX3_beginPart_81 (by decide) ?_
        exact B118 _ hf H locs ls (lv_sub hl [0] rfl) hH
  intro H locs ls hl hH
  replace hl : lv_has ls 2 [(0, .ref (X.2.2.2 a0)), (1, .int a1)] := hl
  unfold f_X3_beginPart at hf
  refine lv_iload_n hx hb dX3_beginPart_0 rfl (lv_at hl 1 rfl) ?_
  refine lv_bipush (v := 82) hx hb dX3_beginPart_1 (by decide) ?_
  refine lv_icmp_ne (tgt := 42) hx hb dX3_beginPart_3 (by decide) (fun c6 => ?_) (fun c6 => ?_)
  · replace hf := ite_f c6 hf
    exact B42 _ hf H locs ls (lv_sub hl [0, 1] rfl) hH
  · replace hf := ite_t c6 hf
    refine lv_aload_n hx hb dX3_beginPart_6 rfl (lv_at hl 0 rfl) ?_
    refine wk_geti (ci := 3) (k := 5) S hK hH j_X3 t0 rfl hq_3_5 (hts _ (wU_in _ m_70)) dX3_beginPart_7 ?_
    refine lv_iconst (v := 4) hx hb dX3_beginPart_10 (by decide) ?_
    refine lv_icmp_ge (tgt := 42) hx hb dX3_beginPart_11 (by decide) (fun c7 => ?_) (fun c7 => ?_)
    · replace hf := ite_t c7 hf
      exact B42 _ hf H locs ls (lv_sub hl [0, 1] rfl) hH
    · replace hf := ite_f c7 hf
      refine lv_aload_n hx hb dX3_beginPart_14 rfl (lv_at hl 0 rfl) ?_
      refine wk_getr (ci := 3) (k := 2) S hK hH j_X3 t0 rfl hq_3_2 (hts _ (wU_in _ m_63)) dX3_beginPart_15 ?_
      refine lv_aload_n hx hb dX3_beginPart_18 rfl (lv_at hl 0 rfl) ?_
      refine wk_geti (ci := 3) (k := 5) S hK hH j_X3 t0 rfl hq_3_5 (hts _ (wU_in _ m_70)) dX3_beginPart_19 ?_
      refine lv_iconst (v := 0) hx hb dX3_beginPart_22 (by decide) ?_
      obtain ⟨o8, hf⟩ := ite_ok hf
      refine wk_iast S hK hH (tr_3_2 t0) o8 dX3_beginPart_23 (fun H locs hH => ?_)
      refine lv_aload_n hx hb dX3_beginPart_24 rfl (lv_at hl 0 rfl) ?_
      refine lv_dup hx hb dX3_beginPart_25 rfl ?_
      refine wk_geti (ci := 3) (k := 5) S hK hH j_X3 t0 rfl hq_3_5 (hts _ (wU_in _ m_70)) dX3_beginPart_26 ?_
      refine lv_iconst (v := 1) hx hb dX3_beginPart_29 (by decide) ?_
      refine lv_iadd hx hb dX3_beginPart_30 ?_
      refine wk_puti (ci := 3) (k := 5) S hK hH j_X3 tyX3 tyX3_ok nmX3 t0 rfl hq_3_5 rfl hd_3_5 (hts _ (wU_in _ m_70)) dX3_beginPart_31 (fun H locs hH => ?_)
      refine lv_aload_n hx hb dX3_beginPart_34 rfl (lv_at hl 0 rfl) ?_
      refine lv_iconst (v := 1) hx hb dX3_beginPart_35 (by decide) ?_
      refine wk_puti (ci := 3) (k := 11) S hK hH j_X3 tyX3 tyX3_ok nmX3 t0 rfl hq_3_11 rfl hd_3_11 (hts _ (wU_in _ m_81)) dX3_beginPart_36 (fun H locs hH => ?_)
      refine lv_goto (tgt := 118) hx hb dX3_beginPart_39 (by decide) ?_
      exact B118 _ hf H locs ls (lv_sub hl [0] rfl) hH
