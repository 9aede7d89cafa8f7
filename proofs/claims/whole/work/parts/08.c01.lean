set_option maxHeartbeats 4000000 in
set_option maxRecDepth 100000 in
theorem C_X0_add (l : Launch) (X : Cx) (hI : Inj X) {a0 : Nat} (t0 : tY a0 = 0) (a1 : Int32) (a2 : Int32) (a3 : Int32) (a4 : Int32) (h : Hp) (h0 : Hp) (hf : f_X0_add a0 a1 a2 a3 a4 h = some h0) : Mv l X yX0_add cX0_add 6 none 0 0 h [.ref (X.2.2.2 a0), .int a1, .int a2, .int a3, .int a4] h0 := by
  refine BD_of (own := RX0) hI rfl (by decide) (Nat.le_of_ble_eq_true rfl) ?_
  intro p e s m args below meth c S hr hlk hK hN
  obtain ⟨hx, hb, hml, hown, hts⟩ := id S
  have B32 : ∀ (h : Hp), g_X0_add_32 a0 a1 a2 a3 a4 h = some h0 → BK p l e ({ frames := 0, cells := 0, slots := 0, locals := 0 }) s m args below meth c (MQ below (cQv X h0) args s 0 0 (AD X)) X 6 32 [(0, .ref (X.2.2.2 a0)), (1, .int a1), (2, .int a2), (3, .int a3), (4, .int a4)] [] h := by
    intro h hf H locs ls hl hH
    unfold g_X0_add_32 at hf
    refine lv_aload_n hx hb dX0_add_32 rfl (lv_at hl 0 rfl) ?_
    refine wk_geti (ci := 0) (k := 4) S hK hH j_X0 t0 rfl hq_0_4 (hts _ (wU_in _ m_176)) dX0_add_33 ?_
    refine lv_aload_n hx hb dX0_add_36 rfl (lv_at hl 0 rfl) ?_
    refine wk_geti (ci := 0) (k := 5) S hK hH j_X0 t0 rfl hq_0_5 (hts _ (wU_in _ m_177)) dX0_add_37 ?_
    refine lv_iadd hx hb dX0_add_40 ?_
    refine lv_bipush (v := 14) hx hb dX0_add_41 (by decide) ?_
    refine lv_irem hx hb dX0_add_43 (by decide) ?_
    refine lv_istore (lv' := [(5, .int ((((h.1 a0 4) + (h.1 a0 5)) - ((h.1 a0 4) + (h.1 a0 5)) / (14 : Int32) * (14 : Int32)))), (0, .ref (X.2.2.2 a0)), (1, .int a1), (2, .int a2), (3, .int a3), (4, .int a4)]) hx hb dX0_add_44 hl (by decide) rfl (fun ls hl => ?_)
    refine lv_aload_n hx hb dX0_add_46 rfl (lv_at hl 1 rfl) ?_
    refine wk_getr (ci := 0) (k := 0) S hK hH j_X0 t0 rfl hq_0_0 (hts _ (wU_in _ m_172)) dX0_add_47 ?_
    refine lv_iload hx hb dX0_add_50 (lv_at hl 0 rfl) ?_
    refine lv_iload_n hx hb dX0_add_52 rfl (lv_at hl 2 rfl) ?_
    obtain ⟨o1, hf⟩ := ite_ok hf
    refine wk_iast S hK hH (tr_0_0 t0) o1 dX0_add_53 (fun H locs hH => ?_)
    refine lv_aload_n hx hb dX0_add_54 rfl (lv_at hl 1 rfl) ?_
    refine wk_getr (ci := 0) (k := 1) S hK hH j_X0 t0 rfl hq_0_1 (hts _ (wU_in _ m_173)) dX0_add_55 ?_
    refine lv_iload hx hb dX0_add_58 (lv_at hl 0 rfl) ?_
    refine lv_iload_n hx hb dX0_add_60 rfl (lv_at hl 3 rfl) ?_
    obtain ⟨o2, hf⟩ := ite_ok hf
    refine wk_iast S hK hH (tr_0_1 t0) o2 dX0_add_61 (fun H locs hH => ?_)
    refine lv_aload_n hx hb dX0_add_62 rfl (lv_at hl 1 rfl) ?_
    refine wk_getr (ci := 0) (k := 2) S hK hH j_X0 t0 rfl hq_0_2 (hts _ (wU_in _ m_174)) dX0_add_63 ?_
    refine lv_iload hx hb dX0_add_66 (lv_at hl 0 rfl) ?_
    refine lv_iload_n hx hb dX0_add_68 rfl (lv_at hl 4 rfl) ?_
    obtain ⟨o3, hf⟩ := ite_ok hf
    refine wk_iast S hK hH (tr_0_2 t0) o3 dX0_add_69 (fun H locs hH => ?_)
    refine lv_aload_n hx hb dX0_add_70 rfl (lv_at hl 1 rfl) ?_
    refine wk_getr (ci := 0) (k := 3) S hK hH j_X0 t0 rfl hq_0_3 (hts _ (wU_in _ m_175)) dX0_add_71 ?_
    refine lv_iload hx hb dX0_add_74 (lv_at hl 0 rfl) ?_
    refine lv_iload hx hb dX0_add_76 (lv_at hl 5 rfl) ?_
    obtain ⟨o4, hf⟩ := ite_ok hf
    refine wk_iast S hK hH (tr_0_3 t0) o4 dX0_add_78 (fun H locs hH => ?_)
    refine lv_aload_n hx hb dX0_add_79 rfl (lv_at hl 1 rfl) ?_
    refine lv_dup hx hb dX0_add_80 rfl ?_
    refine wk_geti (ci := 0) (k := 5) S hK hH j_X0 t0 rfl hq_0_5 (hts _ (wU_in _ m_177)) dX0_add_81 ?_
    refine lv_iconst (v := 1) hx hb dX0_add_84 (by decide) ?_
    refine lv_iadd hx hb dX0_add_85 ?_
    refine wk_puti (ci := 0) (k := 5) S hK hH j_X0 tyX0 tyX0_ok nmX0 t0 rfl hq_0_5 rfl hd_0_5 (hts _ (wU_in _ m_177)) dX0_add_86 (fun H locs hH => ?_)
    exact wk_vret S hr hlk hK hN hH hf dX0_add_89
  intro H locs ls hl hH
  replace hl : lv_has ls 6 [(0, .ref (X.2.2.2 a0)), (1, .int a1), (2, .int a2), (3, .int a3), (4, .int a4)] := hl
  unfold f_X0_add at hf
  refine lv_aload_n hx hb dX0_add_0 rfl (lv_at hl 0 rfl) ?_
  refine wk_geti (ci := 0) (k := 5) S hK hH j_X0 t0 rfl hq_0_5 (hts _ (wU_in _ m_177)) dX0_add_1 ?_
  refine lv_bipush (v := 14) hx hb dX0_add_4 (by decide) ?_
  refine lv_icmp_ne (tgt := 32) hx hb dX0_add_6 (by decide) (fun c5 => ?_) (fun c5 => ?_)
  · replace hf := ite_f c5 hf
    exact B32 _ hf H locs ls (lv_sub hl [0, 1, 2, 3, 4] rfl) hH
  · replace hf := ite_t c5 hf
    refine lv_aload_n hx hb dX0_add_9 rfl (lv_at hl 0 rfl) ?_
    refine lv_aload_n hx hb dX0_add_10 rfl (lv_at hl 0 rfl) ?_
    refine wk_geti (ci := 0) (k := 4) S hK hH j_X0 t0 rfl hq_0_4 (hts _ (wU_in _ m_176)) dX0_add_11 ?_
    refine lv_iconst (v := 1) hx hb dX0_add_14 (by decide) ?_
    refine lv_iadd hx hb dX0_add_15 ?_
    refine lv_bipush (v := 14) hx hb dX0_add_16 (by decide) ?_
    refine lv_irem hx hb dX0_add_18 (by decide) ?_
    refine wk_puti (ci := 0) (k := 4) S hK hH j_X0 tyX0 tyX0_ok nmX0 t0 rfl hq_0_4 rfl hd_0_4 (hts _ (wU_in _ m_176)) dX0_add_19 (fun H locs hH => ?_)
    refine lv_aload_n hx hb dX0_add_22 rfl (lv_at hl 0 rfl) ?_
    refine lv_dup hx hb dX0_add_23 rfl ?_
    refine wk_geti (ci := 0) (k := 5) S hK hH j_X0 t0 rfl hq_0_5 (hts _ (wU_in _ m_177)) dX0_add_24 ?_
    refine lv_iconst (v := 1) hx hb dX0_add_27 (by decide) ?_
    refine lv_isub hx hb dX0_add_28 ?_
    refine wk_puti (ci := 0) (k := 5) S hK hH j_X0 tyX0 tyX0_ok nmX0 t0 rfl hq_0_5 rfl hd_0_5 (hts _ (wU_in _ m_177)) dX0_add_29 (fun H locs hH => ?_)
    exact B32 _ hf H locs ls (lv_sub hl [0, 1, 2, 3, 4] rfl) hH
set_option maxHeartbeats 4000000 in
set_option maxRecDepth 100000 in
theorem C_X4_exchange (l : Launch) (X : Cx) (hI : Inj X) {a0 : Nat} (t0 : tY a0 = 4) (a1 : Int32) (a2 : Int32) (h : Hp) (h0 : Hp) (hf : f_X4_exchange a0 a1 a2 h = some h0) : Mv l X yX4_exchange cX4_exchange 4 none 0 0 h [.ref (X.2.2.2 a0), .int a1, .int a2] h0 := by
  refine BD_of (own := RX4) hI rfl (by decide) (Nat.le_of_ble_eq_true rfl) ?_
  intro p e s m args below meth c S hr hlk hK hN
  obtain ⟨hx, hb, hml, hown, hts⟩ := id S
  intro H locs ls hl hH
  replace hl : lv_has ls 4 [(0, .ref (X.2.2.2 a0)), (1, .int a1), (2, .int a2)] := hl
  unfold f_X4_exchange at hf
  refine lv_aload_n hx hb dX4_exchange_0 rfl (lv_at hl 0 rfl) ?_
  refine wk_getr (ci := 4) (k := 2) S hK hH j_X4 t0 rfl hq_4_2 (hts _ (wU_in _ m_145)) dX4_exchange_1 ?_
  refine lv_iload_n hx hb dX4_exchange_4 rfl (lv_at hl 1 rfl) ?_
  obtain ⟨o1, hf⟩ := ite_ok hf
  refine wk_iald S hK hH (tr_4_2 t0) o1 dX4_exchange_5 ?_
  refine lv_istore_n (lv' := [(3, .int ((h.1 (rF a0 2) (a1).toNatClampNeg))), (0, .ref (X.2.2.2 a0)), (1, .int a1), (2, .int a2)]) hx hb dX4_exchange_6 rfl hl (by decide) rfl (fun ls hl => ?_)
  refine lv_aload_n hx hb dX4_exchange_7 rfl (lv_at hl 1 rfl) ?_
  refine wk_getr (ci := 4) (k := 2) S hK hH j_X4 t0 rfl hq_4_2 (hts _ (wU_in _ m_145)) dX4_exchange_8 ?_
  refine lv_iload_n hx hb dX4_exchange_11 rfl (lv_at hl 2 rfl) ?_
  refine lv_aload_n hx hb dX4_exchange_12 rfl (lv_at hl 1 rfl) ?_
  refine wk_getr (ci := 4) (k := 2) S hK hH j_X4 t0 rfl hq_4_2 (hts _ (wU_in _ m_145)) dX4_exchange_13 ?_
  refine lv_iload_n hx hb dX4_exchange_16 rfl (lv_at hl 3 rfl) ?_
  obtain ⟨o2, hf⟩ := ite_ok hf
  refine wk_iald S hK hH (tr_4_2 t0) o2 dX4_exchange_17 ?_
  obtain ⟨o3, hf⟩ := ite_ok hf
  refine wk_iast S hK hH (tr_4_2 t0) o3 dX4_exchange_18 (fun H locs hH => ?_)
  refine lv_aload_n hx hb dX4_exchange_19 rfl (lv_at hl 1 rfl) ?_
  refine wk_getr (ci := 4) (k := 2) S hK hH j_X4 t0 rfl hq_4_2 (hts _ (wU_in _ m_145)) dX4_exchange_20 ?_
  refine lv_iload_n hx hb dX4_exchange_23 rfl (lv_at hl 3 rfl) ?_
  refine lv_iload_n hx hb dX4_exchange_24 rfl (lv_at hl 0 rfl) ?_
  obtain ⟨o4, hf⟩ := ite_ok hf
  refine wk_iast S hK hH (tr_4_2 t0) o4 dX4_exchange_25 (fun H locs hH => ?_)
  exact wk_vret S hr hlk hK hN hH hf dX4_exchange_26
set_option maxHeartbeats 4000000 in
set_option maxRecDepth 100000 in
theorem C_X4_putSign (l : Launch) (X : Cx) (hI : Inj X) {a0 : Nat} (t0 : tY a0 = 4) (a1 : Int32) (a2 : Int32) (a3 : Int32) (h : Hp) (h0 : Hp) (hf : f_X4_putSign a0 a1 a2 a3 h = some h0) : Mv l X yX4_putSign cX4_putSign 4 none 0 0 h [.ref (X.2.2.2 a0), .int a1, .int a2, .int a3] h0 := by
  refine BD_of (own := RX4) hI rfl (by decide) (Nat.le_of_ble_eq_true rfl) ?_
  intro p e s m args below meth c S hr hlk hK hN
  obtain ⟨hx, hb, hml, hown, hts⟩ := id S
  intro H locs ls hl hH
  replace hl : lv_has ls 4 [(0, .ref (X.2.2.2 a0)), (1, .int a1), (2, .int a2), (3, .int a3)] := hl
  unfold f_X4_putSign at hf
  refine lv_aload_n hx hb dX4_putSign_0 rfl (lv_at hl 0 rfl) ?_
  refine wk_getr (ci := 4) (k := 1) S hK hH j_X4 t0 rfl hq_4_1 (hts _ (wU_in _ m_144)) dX4_putSign_1 ?_
  refine lv_iload_n hx hb dX4_putSign_4 rfl (lv_at hl 1 rfl) ?_
  refine lv_iconst (v := 4) hx hb dX4_putSign_5 (by decide) ?_
  refine lv_imul hx hb dX4_putSign_6 ?_
  refine lv_iload_n hx hb dX4_putSign_7 rfl (lv_at hl 2 rfl) ?_
  refine lv_iadd hx hb dX4_putSign_8 ?_
  refine lv_iload_n hx hb dX4_putSign_9 rfl (lv_at hl 3 rfl) ?_
  obtain ⟨o1, hf⟩ := ite_ok hf
  refine wk_iast S hK hH (tr_4_1 t0) o1 dX4_putSign_10 (fun H locs hH => ?_)
  exact wk_vret S hr hlk hK hN hH hf dX4_putSign_11
set_option maxHeartbeats 4000000 in
set_option maxRecDepth 100000 in
theorem C_X4_putForm (l : Launch) (X : Cx) (hI : Inj X) {a0 : Nat} (t0 : tY a0 = 4) (a1 : Int32) (a2 : Int32) (a3 : Int32) (h : Hp) (h0 : Hp) (hf : f_X4_putForm a0 a1 a2 a3 h = some h0) : Mv l X yX4_putForm cX4_putForm 4 none 0 0 h [.ref (X.2.2.2 a0), .int a1, .int a2, .int a3] h0 := by
  refine BD_of (own := RX4) hI rfl (by decide) (Nat.le_of_ble_eq_true rfl) ?_
  intro p e s m args below meth c S hr hlk hK hN
  obtain ⟨hx, hb, hml, hown, hts⟩ := id S
  intro H locs ls hl hH
  replace hl : lv_has ls 4 [(0, .ref (X.2.2.2 a0)), (1, .int a1), (2, .int a2), (3, .int a3)] := hl
  unfold f_X4_putForm at hf
  refine lv_aload_n hx hb dX4_putForm_0 rfl (lv_at hl 0 rfl) ?_
  refine wk_getr (ci := 4) (k := 3) S hK hH j_X4 t0 rfl hq_4_3 (hts _ (wU_in _ m_147)) dX4_putForm_1 ?_
  refine lv_iload_n hx hb dX4_putForm_4 rfl (lv_at hl 1 rfl) ?_
  refine lv_iconst (v := 3) hx hb dX4_putForm_5 (by decide) ?_
  refine lv_imul hx hb dX4_putForm_6 ?_
  refine lv_iload_n hx hb dX4_putForm_7 rfl (lv_at hl 2 rfl) ?_
  refine lv_iadd hx hb dX4_putForm_8 ?_
  refine lv_iload_n hx hb dX4_putForm_9 rfl (lv_at hl 3 rfl) ?_
  obtain ⟨o1, hf⟩ := ite_ok hf
  refine wk_iast S hK hH (tr_4_3 t0) o1 dX4_putForm_10 (fun H locs hH => ?_)
  exact wk_vret S hr hlk hK hN hH hf dX4_putForm_11
set_option maxHeartbeats 4000000 in
set_option maxRecDepth 100000 in
theorem C_X0_takeBackLast (l : Launch) (X : Cx) (hI : Inj X) {a0 : Nat} (t0 : tY a0 = 0) {a1 : Nat} (t1 : tY a1 = 4) (h : Hp) (h0 : Hp) (hf : f_X0_takeBackLast a0 a1 h = some h0) : Mv l X yX0_takeBackLast cX0_takeBackLast 3 none 1 23 h [.ref (X.2.2.2 a0), .ref (X.2.2.2 a1)] h0 := by
  refine BD_of (own := RX0) hI rfl (by decide) (Nat.le_of_ble_eq_true rfl) ?_
  intro p e s m args below meth c S hr hlk hK hN
  obtain ⟨hx, hb, hml, hown, hts⟩ := id S
  intro H locs ls hl hH
  replace hl : lv_has ls 3 [(0, .ref (X.2.2.2 a0)), (1, .ref (X.2.2.2 a1))] := hl
  unfold f_X0_takeBackLast at hf
  refine lv_aload_n hx hb dX0_takeBackLast_0 rfl (lv_at hl 0 rfl) ?_
  refine wk_geti (ci := 0) (k := 5) S hK hH j_X0 t0 rfl hq_0_5 (hts _ (wU_in _ m_177)) dX0_takeBackLast_1 ?_
  refine lv_if_ne (tgt := 8) hx hb dX0_takeBackLast_4 (by decide) (fun c1 => ?_) (fun c1 => ?_)
  · replace hf := ite_f c1 hf
    refine lv_aload_n hx hb dX0_takeBackLast_8 rfl (lv_at hl 0 rfl) ?_
    refine lv_dup hx hb dX0_takeBackLast_9 rfl ?_
    refine wk_geti (ci := 0) (k := 5) S hK hH j_X0 t0 rfl hq_0_5 (hts _ (wU_in _ m_177)) dX0_takeBackLast_10 ?_
    refine lv_iconst (v := 1) hx hb dX0_takeBackLast_13 (by decide) ?_
    refine lv_isub hx hb dX0_takeBackLast_14 ?_
    refine wk_puti (ci := 0) (k := 5) S hK hH j_X0 tyX0 tyX0_ok nmX0 t0 rfl hq_0_5 rfl hd_0_5 (hts _ (wU_in _ m_177)) dX0_takeBackLast_15 (fun H locs hH => ?_)
    refine lv_aload_n hx hb dX0_takeBackLast_18 rfl (lv_at hl 0 rfl) ?_
    refine wk_geti (ci := 0) (k := 4) S hK hH j_X0 t0 rfl hq_0_4 (hts _ (wU_in _ m_176)) dX0_takeBackLast_19 ?_
    refine lv_aload_n hx hb dX0_takeBackLast_22 rfl (lv_at hl 0 rfl) ?_
    refine wk_geti (ci := 0) (k := 5) S hK hH j_X0 t0 rfl hq_0_5 (hts _ (wU_in _ m_177)) dX0_takeBackLast_23 ?_
    refine lv_iadd hx hb dX0_takeBackLast_26 ?_
    refine lv_bipush (v := 14) hx hb dX0_takeBackLast_27 (by decide) ?_
    refine lv_irem hx hb dX0_takeBackLast_29 (by decide) ?_
    refine lv_istore_n (lv' := [(2, .int (((((sI h a0 5 ((h.1 a0 5) - (1 : Int32))).1 a0 4) + ((sI h a0 5 ((h.1 a0 5) - (1 : Int32))).1 a0 5)) - (((sI h a0 5 ((h.1 a0 5) - (1 : Int32))).1 a0 4) + ((sI h a0 5 ((h.1 a0 5) - (1 : Int32))).1 a0 5)) / (14 : Int32) * (14 : Int32)))), (0, .ref (X.2.2.2 a0)), (1, .ref (X.2.2.2 a1))]) hx hb dX0_takeBackLast_30 rfl hl (by decide) rfl (fun ls hl => ?_)
    refine lv_aload_n hx hb dX0_takeBackLast_31 rfl (lv_at hl 1 rfl) ?_
    refine wk_getr (ci := 0) (k := 0) S hK hH j_X0 t0 rfl hq_0_0 (hts _ (wU_in _ m_172)) dX0_takeBackLast_32 ?_
    refine lv_iload_n hx hb dX0_takeBackLast_35 rfl (lv_at hl 0 rfl) ?_
    obtain ⟨o2, hf⟩ := ite_ok hf
    refine wk_iald S hK hH (tr_0_0 t0) o2 dX0_takeBackLast_36 ?_
    by_cases c3 : ((sI h a0 5 ((h.1 a0 5) - (1 : Int32))).1 (rF a0 0) (((((sI h a0 5 ((h.1 a0 5) - (1 : Int32))).1 a0 4) + ((sI h a0 5 ((h.1 a0 5) - (1 : Int32))).1 a0 5)) - (((sI h a0 5 ((h.1 a0 5) - (1 : Int32))).1 a0 4) + ((sI h a0 5 ((h.1 a0 5) - (1 : Int32))).1 a0 5)) / (14 : Int32) * (14 : Int32))).toNatClampNeg) = 1
    · replace hf := ite_t c3 hf
      refine lv_tableIn (off := 27) (tgt := 64) hx hb dX0_takeBackLast_37 (by rw [c3]; decide) (by rw [c3]; decide) (by rw [c3]; decide) (by decide) ?_
      refine lv_aload_n hx hb dX0_takeBackLast_64 rfl (lv_at hl 2 rfl) ?_
      refine lv_aload_n hx hb dX0_takeBackLast_65 rfl (lv_at hl 1 rfl) ?_
      refine wk_getr (ci := 0) (k := 1) S hK hH j_X0 t0 rfl hq_0_1 (hts _ (wU_in _ m_173)) dX0_takeBackLast_66 ?_
      refine lv_iload_n hx hb dX0_takeBackLast_69 rfl (lv_at hl 0 rfl) ?_
      obtain ⟨o4, hf⟩ := ite_ok hf
      refine wk_iald S hK hH (tr_0_1 t0) o4 dX0_takeBackLast_70 ?_
      refine lv_aload_n hx hb dX0_takeBackLast_71 rfl (lv_at hl 1 rfl) ?_
      refine wk_getr (ci := 0) (k := 2) S hK hH j_X0 t0 rfl hq_0_2 (hts _ (wU_in _ m_174)) dX0_takeBackLast_72 ?_
      refine lv_iload_n hx hb dX0_takeBackLast_75 rfl (lv_at hl 0 rfl) ?_
      obtain ⟨o5, hf⟩ := ite_ok hf
      refine wk_iald S hK hH (tr_0_2 t0) o5 dX0_takeBackLast_76 ?_
      obtain ⟨h7, hq6, hf⟩ := bind_ok hf
      refine wk_callVv (ci := 4) (b := a1) (As := [.int (((sI h a0 5 ((h.1 a0 5) - (1 : Int32))).1 (rF a0 1) (((((sI h a0 5 ((h.1 a0 5) - (1 : Int32))).1 a0 4) + ((sI h a0 5 ((h.1 a0 5) - (1 : Int32))).1 a0 5)) - (((sI h a0 5 ((h.1 a0 5) - (1 : Int32))).1 a0 4) + ((sI h a0 5 ((h.1 a0 5) - (1 : Int32))).1 a0 5)) / (14 : Int32) * (14 : Int32))).toNatClampNeg)), .int (((sI h a0 5 ((h.1 a0 5) - (1 : Int32))).1 (rF a0 2) (((((sI h a0 5 ((h.1 a0 5) - (1 : Int32))).1 a0 4) + ((sI h a0 5 ((h.1 a0 5) - (1 : Int32))).1 a0 5)) - (((sI h a0 5 ((h.1 a0 5) - (1 : Int32))).1 a0 4) + ((sI h a0 5 ((h.1 a0 5) - (1 : Int32))).1 a0 5)) / (14 : Int32) * (14 : Int32))).toNatClampNeg))]) (rest := []) S hK hN hH t1 (by decide) rfl (C_X4_exchange l X hI t1 ((sI h a0 5 ((h.1 a0 5) - (1 : Int32))).1 (rF a0 1) (((((sI h a0 5 ((h.1 a0 5) - (1 : Int32))).1 a0 4) + ((sI h a0 5 ((h.1 a0 5) - (1 : Int32))).1 a0 5)) - (((sI h a0 5 ((h.1 a0 5) - (1 : Int32))).1 a0 4) + ((sI h a0 5 ((h.1 a0 5) - (1 : Int32))).1 a0 5)) / (14 : Int32) * (14 : Int32))).toNatClampNeg) ((sI h a0 5 ((h.1 a0 5) - (1 : Int32))).1 (rF a0 2) (((((sI h a0 5 ((h.1 a0 5) - (1 : Int32))).1 a0 4) + ((sI h a0 5 ((h.1 a0 5) - (1 : Int32))).1 a0 5)) - (((sI h a0 5 ((h.1 a0 5) - (1 : Int32))).1 a0 4) + ((sI h a0 5 ((h.1 a0 5) - (1 : Int32))).1 a0 5)) / (14 : Int32) * (14 : Int32))).toNatClampNeg) _ _ hq6) (cwV 2 hts (gV wU_in m_482 m_450 m_451 m_38 m_452) rfl rfl rfl hdV_X4_exchange ⟨Nat.le_of_ble_eq_true rfl, Nat.le_of_ble_eq_true rfl⟩) hl.1 rfl rfl (Nat.le_of_ble_eq_true rfl) dX0_takeBackLast_77 ⟨Nat.zero_le _, Nat.zero_le _⟩ (fun H locs hH => ?_)
      refine lv_goto (tgt := 133) hx hb dX0_takeBackLast_80 (by decide) ?_
      exact wk_vret S hr hlk hK hN hH hf dX0_takeBackLast_133
    replace hf := ite_f c3 hf
    by_cases c9 : ((sI h a0 5 ((h.1 a0 5) - (1 : Int32))).1 (rF a0 0) (((((sI h a0 5 ((h.1 a0 5) - (1 : Int32))).1 a0 4) + ((sI h a0 5 ((h.1 a0 5) - (1 : Int32))).1 a0 5)) - (((sI h a0 5 ((h.1 a0 5) - (1 : Int32))).1 a0 4) + ((sI h a0 5 ((h.1 a0 5) - (1 : Int32))).1 a0 5)) / (14 : Int32) * (14 : Int32))).toNatClampNeg) = 2
    · replace hf := ite_t c9 hf
      refine lv_tableIn (off := 46) (tgt := 83) hx hb dX0_takeBackLast_37 (by rw [c9]; decide) (by rw [c9]; decide) (by rw [c9]; decide) (by decide) ?_
      refine lv_aload_n hx hb dX0_takeBackLast_83 rfl (lv_at hl 2 rfl) ?_
      refine lv_aload_n hx hb dX0_takeBackLast_84 rfl (lv_at hl 1 rfl) ?_
      refine wk_getr (ci := 0) (k := 1) S hK hH j_X0 t0 rfl hq_0_1 (hts _ (wU_in _ m_173)) dX0_takeBackLast_85 ?_
      refine lv_iload_n hx hb dX0_takeBackLast_88 rfl (lv_at hl 0 rfl) ?_
      obtain ⟨o10, hf⟩ := ite_ok hf
      refine wk_iald S hK hH (tr_0_1 t0) o10 dX0_takeBackLast_89 ?_
      refine lv_aload_n hx hb dX0_takeBackLast_90 rfl (lv_at hl 1 rfl) ?_
      refine wk_getr (ci := 0) (k := 2) S hK hH j_X0 t0 rfl hq_0_2 (hts _ (wU_in _ m_174)) dX0_takeBackLast_91 ?_
      refine lv_iload_n hx hb dX0_takeBackLast_94 rfl (lv_at hl 0 rfl) ?_
      obtain ⟨o11, hf⟩ := ite_ok hf
      refine wk_iald S hK hH (tr_0_2 t0) o11 dX0_takeBackLast_95 ?_
      refine lv_aload_n hx hb dX0_takeBackLast_96 rfl (lv_at hl 1 rfl) ?_
      refine wk_getr (ci := 0) (k := 3) S hK hH j_X0 t0 rfl hq_0_3 (hts _ (wU_in _ m_175)) dX0_takeBackLast_97 ?_
      refine lv_iload_n hx hb dX0_takeBackLast_100 rfl (lv_at hl 0 rfl) ?_
      obtain ⟨o12, hf⟩ := ite_ok hf
      refine wk_iald S hK hH (tr_0_3 t0) o12 dX0_takeBackLast_101 ?_
      obtain ⟨h14, hq13, hf⟩ := bind_ok hf
      refine wk_callVv (ci := 4) (b := a1) (As := [.int (((sI h a0 5 ((h.1 a0 5) - (1 : Int32))).1 (rF a0 1) (((((sI h a0 5 ((h.1 a0 5) - (1 : Int32))).1 a0 4) + ((sI h a0 5 ((h.1 a0 5) - (1 : Int32))).1 a0 5)) - (((sI h a0 5 ((h.1 a0 5) - (1 : Int32))).1 a0 4) + ((sI h a0 5 ((h.1 a0 5) - (1 : Int32))).1 a0 5)) / (14 : Int32) * (14 : Int32))).toNatClampNeg)), .int (((sI h a0 5 ((h.1 a0 5) - (1 : Int32))).1 (rF a0 2) (((((sI h a0 5 ((h.1 a0 5) - (1 : Int32))).1 a0 4) + ((sI h a0 5 ((h.1 a0 5) - (1 : Int32))).1 a0 5)) - (((sI h a0 5 ((h.1 a0 5) - (1 : Int32))).1 a0 4) + ((sI h a0 5 ((h.1 a0 5) - (1 : Int32))).1 a0 5)) / (14 : Int32) * (14 : Int32))).toNatClampNeg)), .int (((sI h a0 5 ((h.1 a0 5) - (1 : Int32))).1 (rF a0 3) (((((sI h a0 5 ((h.1 a0 5) - (1 : Int32))).1 a0 4) + ((sI h a0 5 ((h.1 a0 5) - (1 : Int32))).1 a0 5)) - (((sI h a0 5 ((h.1 a0 5) - (1 : Int32))).1 a0 4) + ((sI h a0 5 ((h.1 a0 5) - (1 : Int32))).1 a0 5)) / (14 : Int32) * (14 : Int32))).toNatClampNeg))]) (rest := []) S hK hN hH t1 (by decide) rfl (C_X4_putSign l X hI t1 ((sI h a0 5 ((h.1 a0 5) - (1 : Int32))).1 (rF a0 1) (((((sI h a0 5 ((h.1 a0 5) - (1 : Int32))).1 a0 4) + ((sI h a0 5 ((h.1 a0 5) - (1 : Int32))).1 a0 5)) - (((sI h a0 5 ((h.1 a0 5) - (1 : Int32))).1 a0 4) + ((sI h a0 5 ((h.1 a0 5) - (1 : Int32))).1 a0 5)) / (14 : Int32) * (14 : Int32))).toNatClampNeg) ((sI h a0 5 ((h.1 a0 5) - (1 : Int32))).1 (rF a0 2) (((((sI h a0 5 ((h.1 a0 5) - (1 : Int32))).1 a0 4) + ((sI h a0 5 ((h.1 a0 5) - (1 : Int32))).1 a0 5)) - (((sI h a0 5 ((h.1 a0 5) - (1 : Int32))).1 a0 4) + ((sI h a0 5 ((h.1 a0 5) - (1 : Int32))).1 a0 5)) / (14 : Int32) * (14 : Int32))).toNatClampNeg) ((sI h a0 5 ((h.1 a0 5) - (1 : Int32))).1 (rF a0 3) (((((sI h a0 5 ((h.1 a0 5) - (1 : Int32))).1 a0 4) + ((sI h a0 5 ((h.1 a0 5) - (1 : Int32))).1 a0 5)) - (((sI h a0 5 ((h.1 a0 5) - (1 : Int32))).1 a0 4) + ((sI h a0 5 ((h.1 a0 5) - (1 : Int32))).1 a0 5)) / (14 : Int32) * (14 : Int32))).toNatClampNeg) _ _ hq13) (cwV 3 hts (gV wU_in m_483 m_463 m_464 m_38 m_465) rfl rfl rfl hdV_X4_putSign ⟨Nat.le_of_ble_eq_true rfl, Nat.le_of_ble_eq_true rfl⟩) hl.1 rfl rfl (Nat.le_of_ble_eq_true rfl) dX0_takeBackLast_102 ⟨Nat.zero_le _, Nat.zero_le _⟩ (fun H locs hH => ?_)
      refine lv_goto (tgt := 133) hx hb dX0_takeBackLast_105 (by decide) ?_
      exact wk_vret S hr hlk hK hN hH hf dX0_takeBackLast_133
    replace hf := ite_f c9 hf
    by_cases c16 : ((sI h a0 5 ((h.1 a0 5) - (1 : Int32))).1 (rF a0 0) (((((sI h a0 5 ((h.1 a0 5) - (1 : Int32))).1 a0 4) + ((sI h a0 5 ((h.1 a0 5) - (1 : Int32))).1 a0 5)) - (((sI h a0 5 ((h.1 a0 5) - (1 : Int32))).1 a0 4) + ((sI h a0 5 ((h.1 a0 5) - (1 : Int32))).1 a0 5)) / (14 : Int32) * (14 : Int32))).toNatClampNeg) = 3
    · replace hf := ite_t c16 hf
      refine lv_tableIn (off := 71) (tgt := 108) hx hb dX0_takeBackLast_37 (by rw [c16]; decide) (by rw [c16]; decide) (by rw [c16]; decide) (by decide) ?_
      refine lv_aload_n hx hb dX0_takeBackLast_108 rfl (lv_at hl 2 rfl) ?_
      refine lv_aload_n hx hb dX0_takeBackLast_109 rfl (lv_at hl 1 rfl) ?_
      refine wk_getr (ci := 0) (k := 1) S hK hH j_X0 t0 rfl hq_0_1 (hts _ (wU_in _ m_173)) dX0_takeBackLast_110 ?_
      refine lv_iload_n hx hb dX0_takeBackLast_113 rfl (lv_at hl 0 rfl) ?_
      obtain ⟨o17, hf⟩ := ite_ok hf
      refine wk_iald S hK hH (tr_0_1 t0) o17 dX0_takeBackLast_114 ?_
      refine lv_aload_n hx hb dX0_takeBackLast_115 rfl (lv_at hl 1 rfl) ?_
      refine wk_getr (ci := 0) (k := 2) S hK hH j_X0 t0 rfl hq_0_2 (hts _ (wU_in _ m_174)) dX0_takeBackLast_116 ?_
      refine lv_iload_n hx hb dX0_takeBackLast_119 rfl (lv_at hl 0 rfl) ?_
      obtain ⟨o18, hf⟩ := ite_ok hf
      refine wk_iald S hK hH (tr_0_2 t0) o18 dX0_takeBackLast_120 ?_
      refine lv_aload_n hx hb dX0_takeBackLast_121 rfl (lv_at hl 1 rfl) ?_
      refine wk_getr (ci := 0) (k := 3) S hK hH j_X0 t0 rfl hq_0_3 (hts _ (wU_in _ m_175)) dX0_takeBackLast_122 ?_
      refine lv_iload_n hx hb dX0_takeBackLast_125 rfl (lv_at hl 0 rfl) ?_
      obtain ⟨o19, hf⟩ := ite_ok hf
      refine wk_iald S hK hH (tr_0_3 t0) o19 dX0_takeBackLast_126 ?_
      obtain ⟨h21, hq20, hf⟩ := bind_ok hf
      refine wk_callVv (ci := 4) (b := a1) (As := [.int (((sI h a0 5 ((h.1 a0 5) - (1 : Int32))).1 (rF a0 1) (((((sI h a0 5 ((h.1 a0 5) - (1 : Int32))).1 a0 4) + ((sI h a0 5 ((h.1 a0 5) - (1 : Int32))).1 a0 5)) - (((sI h a0 5 ((h.1 a0 5) - (1 : Int32))).1 a0 4) + ((sI h a0 5 ((h.1 a0 5) - (1 : Int32))).1 a0 5)) / (14 : Int32) * (14 : Int32))).toNatClampNeg)), .int (((sI h a0 5 ((h.1 a0 5) - (1 : Int32))).1 (rF a0 2) (((((sI h a0 5 ((h.1 a0 5) - (1 : Int32))).1 a0 4) + ((sI h a0 5 ((h.1 a0 5) - (1 : Int32))).1 a0 5)) - (((sI h a0 5 ((h.1 a0 5) - (1 : Int32))).1 a0 4) + ((sI h a0 5 ((h.1 a0 5) - (1 : Int32))).1 a0 5)) / (14 : Int32) * (14 : Int32))).toNatClampNeg)), .int (((sI h a0 5 ((h.1 a0 5) - (1 : Int32))).1 (rF a0 3) (((((sI h a0 5 ((h.1 a0 5) - (1 : Int32))).1 a0 4) + ((sI h a0 5 ((h.1 a0 5) - (1 : Int32))).1 a0 5)) - (((sI h a0 5 ((h.1 a0 5) - (1 : Int32))).1 a0 4) + ((sI h a0 5 ((h.1 a0 5) - (1 : Int32))).1 a0 5)) / (14 : Int32) * (14 : Int32))).toNatClampNeg))]) (rest := []) S hK hN hH t1 (by decide) rfl (C_X4_putForm l X hI t1 ((sI h a0 5 ((h.1 a0 5) - (1 : Int32))).1 (rF a0 1) (((((sI h a0 5 ((h.1 a0 5) - (1 : Int32))).1 a0 4) + ((sI h a0 5 ((h.1 a0 5) - (1 : Int32))).1 a0 5)) - (((sI h a0 5 ((h.1 a0 5) - (1 : Int32))).1 a0 4) + ((sI h a0 5 ((h.1 a0 5) - (1 : Int32))).1 a0 5)) / (14 : Int32) * (14 : Int32))).toNatClampNeg) ((sI h a0 5 ((h.1 a0 5) - (1 : Int32))).1 (rF a0 2) (((((sI h a0 5 ((h.1 a0 5) - (1 : Int32))).1 a0 4) + ((sI h a0 5 ((h.1 a0 5) - (1 : Int32))).1 a0 5)) - (((sI h a0 5 ((h.1 a0 5) - (1 : Int32))).1 a0 4) + ((sI h a0 5 ((h.1 a0 5) - (1 : Int32))).1 a0 5)) / (14 : Int32) * (14 : Int32))).toNatClampNeg) ((sI h a0 5 ((h.1 a0 5) - (1 : Int32))).1 (rF a0 3) (((((sI h a0 5 ((h.1 a0 5) - (1 : Int32))).1 a0 4) + ((sI h a0 5 ((h.1 a0 5) - (1 : Int32))).1 a0 5)) - (((sI h a0 5 ((h.1 a0 5) - (1 : Int32))).1 a0 4) + ((sI h a0 5 ((h.1 a0 5) - (1 : Int32))).1 a0 5)) / (14 : Int32) * (14 : Int32))).toNatClampNeg) _ _ hq20) (cwV 3 hts (gV wU_in m_484 m_471 m_472 m_38 m_473) rfl rfl rfl hdV_X4_putForm ⟨Nat.le_of_ble_eq_true rfl, Nat.le_of_ble_eq_true rfl⟩) hl.1 rfl rfl (Nat.le_of_ble_eq_true rfl) dX0_takeBackLast_127 ⟨Nat.zero_le _, Nat.zero_le _⟩ (fun H locs hH => ?_)
      refine lv_goto (tgt := 133) hx hb dX0_takeBackLast_130 (by decide) ?_
      exact wk_vret S hr hlk hK hN hH hf dX0_takeBackLast_133
    replace hf := ite_f c16 hf
    have ec3 := lv_neT (a := 1) c3 (by decide)
    have ec9 := lv_neT (a := 2) c9 (by decide)
    have ec16 := lv_neT (a := 3) c16 (by decide)
    refine lv_tableOut (tgt := 133) hx hb dX0_takeBackLast_37 (by omega) (by decide) ?_
    exact wk_vret S hr hlk hK hN hH hf dX0_takeBackLast_133
  · replace hf := ite_t c1 hf
    exact wk_vret S hr hlk hK hN hH hf dX0_takeBackLast_7
set_option maxHeartbeats 4000000 in
set_option maxRecDepth 100000 in
theorem C_X1_add (l : Launch) (X : Cx) (hI : Inj X) {a0 : Nat} (t0 : tY a0 = 1) (a1 : Int32) (a2 : Int32) (a3 : Int32) (a4 : Int32) (h : Hp) (r0 : Int32) (h0 : Hp) (hf : f_X1_add a0 a1 a2 a3 a4 h = some (r0, h0)) : Mi l X yX1_add cX1_add 5 (some .boolean) 0 0 h [.ref (X.2.2.2 a0), .int a1, .int a2, .int a3, .int a4] r0 h0 := by
  refine BD_of (own := RX1) hI rfl (by decide) (Nat.le_of_ble_eq_true rfl) ?_
  intro p e s m args below meth c S hr hlk hK hN
  obtain ⟨hx, hb, hml, hown, hts⟩ := id S
  intro H locs ls hl hH
  replace hl : lv_has ls 5 [(0, .ref (X.2.2.2 a0)), (1, .int a1), (2, .int a2), (3, .int a3), (4, .int a4)] := hl
  unfold f_X1_add at hf
  refine lv_aload_n hx hb dX1_add_0 rfl (lv_at hl 0 rfl) ?_
  refine wk_geti (ci := 1) (k := 4) S hK hH j_X1 t0 rfl hq_1_4 (hts _ (wU_in _ m_203)) dX1_add_1 ?_
  refine lv_bipush (v := 6) hx hb dX1_add_4 (by decide) ?_
  refine lv_icmp_lt (tgt := 11) hx hb dX1_add_6 (by decide) (fun c1 => ?_) (fun c1 => ?_)
  · replace hf := ite_t c1 hf
    refine lv_aload_n hx hb dX1_add_11 rfl (lv_at hl 0 rfl) ?_
    refine wk_getr (ci := 1) (k := 0) S hK hH j_X1 t0 rfl hq_1_0 (hts _ (wU_in _ m_199)) dX1_add_12 ?_
    refine lv_aload_n hx hb dX1_add_15 rfl (lv_at hl 0 rfl) ?_
    refine wk_geti (ci := 1) (k := 4) S hK hH j_X1 t0 rfl hq_1_4 (hts _ (wU_in _ m_203)) dX1_add_16 ?_
    refine lv_iload_n hx hb dX1_add_19 rfl (lv_at hl 1 rfl) ?_
    obtain ⟨o2, hf⟩ := ite_ok hf
    refine wk_iast S hK hH (tr_1_0 t0) o2 dX1_add_20 (fun H locs hH => ?_)
    refine lv_aload_n hx hb dX1_add_21 rfl (lv_at hl 0 rfl) ?_
    refine wk_getr (ci := 1) (k := 1) S hK hH j_X1 t0 rfl hq_1_1 (hts _ (wU_in _ m_200)) dX1_add_22 ?_
    refine lv_aload_n hx hb dX1_add_25 rfl (lv_at hl 0 rfl) ?_
    refine wk_geti (ci := 1) (k := 4) S hK hH j_X1 t0 rfl hq_1_4 (hts _ (wU_in _ m_203)) dX1_add_26 ?_
    refine lv_iload_n hx hb dX1_add_29 rfl (lv_at hl 2 rfl) ?_
    obtain ⟨o3, hf⟩ := ite_ok hf
    refine wk_iast S hK hH (tr_1_1 t0) o3 dX1_add_30 (fun H locs hH => ?_)
    refine lv_aload_n hx hb dX1_add_31 rfl (lv_at hl 0 rfl) ?_
    refine wk_getr (ci := 1) (k := 2) S hK hH j_X1 t0 rfl hq_1_2 (hts _ (wU_in _ m_201)) dX1_add_32 ?_
    refine lv_aload_n hx hb dX1_add_35 rfl (lv_at hl 0 rfl) ?_
    refine wk_geti (ci := 1) (k := 4) S hK hH j_X1 t0 rfl hq_1_4 (hts _ (wU_in _ m_203)) dX1_add_36 ?_
    refine lv_iload_n hx hb dX1_add_39 rfl (lv_at hl 3 rfl) ?_
    obtain ⟨o4, hf⟩ := ite_ok hf
    refine wk_iast S hK hH (tr_1_2 t0) o4 dX1_add_40 (fun H locs hH => ?_)
    refine lv_aload_n hx hb dX1_add_41 rfl (lv_at hl 0 rfl) ?_
    refine wk_getr (ci := 1) (k := 3) S hK hH j_X1 t0 rfl hq_1_3 (hts _ (wU_in _ m_202)) dX1_add_42 ?_
    refine lv_aload_n hx hb dX1_add_45 rfl (lv_at hl 0 rfl) ?_
    refine wk_geti (ci := 1) (k := 4) S hK hH j_X1 t0 rfl hq_1_4 (hts _ (wU_in _ m_203)) dX1_add_46 ?_
    refine lv_iload hx hb dX1_add_49 (lv_at hl 4 rfl) ?_
    obtain ⟨o5, hf⟩ := ite_ok hf
    refine wk_zast S hK hH (tr_1_3 t0) o5 dX1_add_51 (fun H locs hH => ?_)
    refine lv_aload_n hx hb dX1_add_52 rfl (lv_at hl 0 rfl) ?_
    refine lv_dup hx hb dX1_add_53 rfl ?_
    refine wk_geti (ci := 1) (k := 4) S hK hH j_X1 t0 rfl hq_1_4 (hts _ (wU_in _ m_203)) dX1_add_54 ?_
    refine lv_iconst (v := 1) hx hb dX1_add_57 (by decide) ?_
    refine lv_iadd hx hb dX1_add_58 ?_
    refine wk_puti (ci := 1) (k := 4) S hK hH j_X1 tyX1 tyX1_ok nmX1 t0 rfl hq_1_4 rfl hd_1_4 (hts _ (wU_in _ m_203)) dX1_add_59 (fun H locs hH => ?_)
    refine lv_iconst (v := 1) hx hb dX1_add_62 (by decide) ?_
    exact wk_zret S hr hlk hK hN hH rfl hf dX1_add_63
  · replace hf := ite_f c1 hf
    refine lv_iconst (v := 0) hx hb dX1_add_9 (by decide) ?_
    exact wk_zret S hr hlk hK hN hH rfl hf dX1_add_10
set_option maxHeartbeats 4000000 in
set_option maxRecDepth 100000 in
theorem C_X2_hasEnding (l : Launch) (X : Cx) (hI : Inj X) {a0 : Nat} (t0 : tY a0 = 2) (a1 : Int32) (h : Hp) (r0 : Int32) (h0 : Hp) (hf : f_X2_hasEnding a0 a1 h = some (r0, h0)) : Mi l X yX2_hasEnding cX2_hasEnding 2 (some .boolean) 0 0 h [.ref (X.2.2.2 a0), .int a1] r0 h0 := by
  refine BD_of (own := RX2) hI rfl (by decide) (Nat.le_of_ble_eq_true rfl) ?_
  intro p e s m args below meth c S hr hlk hK hN
  obtain ⟨hx, hb, hml, hown, hts⟩ := id S
  intro H locs ls hl hH
  replace hl : lv_has ls 2 [(0, .ref (X.2.2.2 a0)), (1, .int a1)] := hl
  unfold f_X2_hasEnding at hf
  refine lv_iload_n hx hb dX2_hasEnding_0 rfl (lv_at hl 1 rfl) ?_
  refine lv_if_lt (tgt := 16) hx hb dX2_hasEnding_1 (by decide) (fun c1 => ?_) (fun c1 => ?_)
  · replace hf := ite_t c1 hf
    refine lv_iconst (v := 0) hx hb dX2_hasEnding_16 (by decide) ?_
    exact wk_zret S hr hlk hK hN hH rfl hf dX2_hasEnding_17
  · replace hf := ite_f c1 hf
    refine lv_iload_n hx hb dX2_hasEnding_4 rfl (lv_at hl 1 rfl) ?_
    refine lv_aload_n hx hb dX2_hasEnding_5 rfl (lv_at hl 0 rfl) ?_
    refine wk_geti (ci := 2) (k := 3) S hK hH j_X2 t0 rfl hq_2_3 (hts _ (wU_in _ m_125)) dX2_hasEnding_6 ?_
    refine lv_icmp_ge (tgt := 16) hx hb dX2_hasEnding_9 (by decide) (fun c2 => ?_) (fun c2 => ?_)
    · replace hf := ite_t c2 hf
      refine lv_iconst (v := 0) hx hb dX2_hasEnding_16 (by decide) ?_
      exact wk_zret S hr hlk hK hN hH rfl hf dX2_hasEnding_17
    · replace hf := ite_f c2 hf
      refine lv_iconst (v := 1) hx hb dX2_hasEnding_12 (by decide) ?_
      refine lv_goto (tgt := 17) hx hb dX2_hasEnding_13 (by decide) ?_
      exact wk_zret S hr hlk hK hN hH rfl hf dX2_hasEnding_17
set_option maxHeartbeats 4000000 in
set_option maxRecDepth 100000 in
theorem C_X5_join (l : Launch) (X : Cx) (hI : Inj X) (a0 : Int32) (a1 : Int32) (h : Hp) (r0 : Int32) (h0 : Hp) (hf : f_X5_join a0 a1 h = some (r0, h0)) : Mi l X yX5_join cX5_join 2 (some .int) 0 0 h [.int a0, .int a1] r0 h0 := by
  refine BD_of (own := RX5) hI rfl (by decide) (Nat.le_of_ble_eq_true rfl) ?_
  intro p e s m args below meth c S hr hlk hK hN
  obtain ⟨hx, hb, hml, hown, hts⟩ := id S
  have B13 : ∀ (z0 : Int32) (h : Hp), g_X5_join_13 a0 a1 z0 h = some (r0, h0) → BK p l e ({ frames := 0, cells := 0, slots := 0, locals := 0 }) s m args below meth c (MQ below (cQi X r0 h0) args s 0 0 (AD X)) X 2 13 [(0, .int a0), (1, .int a1)] [.int z0] h := by
    intro z0 h hf H locs ls hl hH
    unfold g_X5_join_13 at hf
    refine lv_iload_n hx hb dX5_join_13 rfl (lv_at hl 0 rfl) ?_
    refine lv_imul hx hb dX5_join_14 ?_
    refine lv_iload_n hx hb dX5_join_15 rfl (lv_at hl 1 rfl) ?_
    refine lv_iadd hx hb dX5_join_16 ?_
    exact wk_iret S hr hlk hK hN hH hf dX5_join_17
  intro H locs ls hl hH
  replace hl : lv_has ls 2 [(0, .int a0), (1, .int a1)] := hl
  unfold f_X5_join at hf
  refine lv_iload_n hx hb dX5_join_0 rfl (lv_at hl 1 rfl) ?_
  refine lv_bipush (v := 10) hx hb dX5_join_1 (by decide) ?_
  refine lv_icmp_ge (tgt := 11) hx hb dX5_join_3 (by decide) (fun c1 => ?_) (fun c1 => ?_)
  · replace hf := ite_t c1 hf
    refine lv_bipush (v := 100) hx hb dX5_join_11 (by decide) ?_
    exact B13 _ _ hf H locs ls (lv_sub hl [0, 1] rfl) hH
  · replace hf := ite_f c1 hf
    refine lv_bipush (v := 10) hx hb dX5_join_6 (by decide) ?_
    refine lv_goto (tgt := 13) hx hb dX5_join_8 (by decide) ?_
    exact B13 _ _ hf H locs ls (lv_sub hl [0, 1] rfl) hH
set_option maxHeartbeats 4000000 in
set_option maxRecDepth 100000 in
theorem C_X4_signOf (l : Launch) (X : Cx) (hI : Inj X) {a0 : Nat} (t0 : tY a0 = 4) (a1 : Int32) (a2 : Int32) (h : Hp) (r0 : Int32) (h0 : Hp) (hf : f_X4_signOf a0 a1 a2 h = some (r0, h0)) : Mi l X yX4_signOf cX4_signOf 3 (some .int) 0 0 h [.ref (X.2.2.2 a0), .int a1, .int a2] r0 h0 := by
  refine BD_of (own := RX4) hI rfl (by decide) (Nat.le_of_ble_eq_true rfl) ?_
  intro p e s m args below meth c S hr hlk hK hN
  obtain ⟨hx, hb, hml, hown, hts⟩ := id S
  intro H locs ls hl hH
  replace hl : lv_has ls 3 [(0, .ref (X.2.2.2 a0)), (1, .int a1), (2, .int a2)] := hl
  unfold f_X4_signOf at hf
  refine lv_aload_n hx hb dX4_signOf_0 rfl (lv_at hl 0 rfl) ?_
  refine wk_getr (ci := 4) (k := 1) S hK hH j_X4 t0 rfl hq_4_1 (hts _ (wU_in _ m_144)) dX4_signOf_1 ?_
  refine lv_iload_n hx hb dX4_signOf_4 rfl (lv_at hl 1 rfl) ?_
  refine lv_iconst (v := 4) hx hb dX4_signOf_5 (by decide) ?_
  refine lv_imul hx hb dX4_signOf_6 ?_
  refine lv_iload_n hx hb dX4_signOf_7 rfl (lv_at hl 2 rfl) ?_
  refine lv_iadd hx hb dX4_signOf_8 ?_
  obtain ⟨o1, hf⟩ := ite_ok hf
  refine wk_iald S hK hH (tr_4_1 t0) o1 dX4_signOf_9 ?_
  exact wk_iret S hr hlk hK hN hH hf dX4_signOf_10
set_option maxHeartbeats 4000000 in
set_option maxRecDepth 100000 in
theorem C_X5_fits (l : Launch) (X : Cx) (hI : Inj X) (a0 : Int32) (a1 : Int32) (h : Hp) (r0 : Int32) (h0 : Hp) (hf : f_X5_fits a0 a1 h = some (r0, h0)) : Mi l X yX5_fits cX5_fits 2 (some .boolean) 0 0 h [.int a0, .int a1] r0 h0 := by
  refine BD_of (own := RX5) hI rfl (by decide) (Nat.le_of_ble_eq_true rfl) ?_
  intro p e s m args below meth c S hr hlk hK hN
  obtain ⟨hx, hb, hml, hown, hts⟩ := id S
  have B20 : ∀ (z0 : Int32) (z1 : Int32) (h : Hp), g_X5_fits_20 a0 a1 z0 z1 h = some (r0, h0) → BK p l e ({ frames := 0, cells := 0, slots := 0, locals := 0 }) s m args below meth c (MQ below (cQi X r0 h0) args s 0 0 (AD X)) X 2 20 [] [.int z1, .int z0] h := by
    intro z0 z1 h hf H locs ls hl hH
    unfold g_X5_fits_20 at hf
    refine lv_icmp_ne (tgt := 27) hx hb dX5_fits_20 (by decide) (fun c1 => ?_) (fun c1 => ?_)
    · replace hf := ite_f c1 hf
      refine lv_iconst (v := 0) hx hb dX5_fits_27 (by decide) ?_
      exact wk_zret S hr hlk hK hN hH rfl hf dX5_fits_28
    · replace hf := ite_t c1 hf
      refine lv_iconst (v := 1) hx hb dX5_fits_23 (by decide) ?_
      refine lv_goto (tgt := 28) hx hb dX5_fits_24 (by decide) ?_
      exact wk_zret S hr hlk hK hN hH rfl hf dX5_fits_28
  intro H locs ls hl hH
  replace hl : lv_has ls 2 [(0, .int a0), (1, .int a1)] := hl
  unfold f_X5_fits at hf
  refine lv_iload_n hx hb dX5_fits_0 rfl (lv_at hl 0 rfl) ?_
  refine lv_bipush (v := 6) hx hb dX5_fits_1 (by decide) ?_
  refine lv_icmp_ne (tgt := 8) hx hb dX5_fits_3 (by decide) (fun c2 => ?_) (fun c2 => ?_)
  · replace hf := ite_f c2 hf
    refine lv_iload_n hx hb dX5_fits_8 rfl (lv_at hl 1 rfl) ?_
    refine lv_iload_n hx hb dX5_fits_9 rfl (lv_at hl 0 rfl) ?_
    refine lv_bipush (v := 7) hx hb dX5_fits_10 (by decide) ?_
    refine lv_icmp_ne (tgt := 19) hx hb dX5_fits_12 (by decide) (fun c3 => ?_) (fun c3 => ?_)
    · replace hf := ite_f c3 hf
      refine lv_iload_n hx hb dX5_fits_19 rfl (lv_at hl 0 rfl) ?_
      exact B20 _ _ _ hf H locs ls (lv_sub hl [] rfl) hH
    · replace hf := ite_t c3 hf
      refine lv_iconst (v := 0) hx hb dX5_fits_15 (by decide) ?_
      refine lv_goto (tgt := 20) hx hb dX5_fits_16 (by decide) ?_
      exact B20 _ _ _ hf H locs ls (lv_sub hl [] rfl) hH
  · replace hf := ite_t c2 hf
    refine lv_iconst (v := 1) hx hb dX5_fits_6 (by decide) ?_
    exact wk_zret S hr hlk hK hN hH rfl hf dX5_fits_7
set_option maxHeartbeats 4000000 in
set_option maxRecDepth 100000 in
theorem C_X4_goOver (l : Launch) (X : Cx) (hI : Inj X) {a0 : Nat} (t0 : tY a0 = 4) (a1 : Int32) (a2 : Int32) (h : Hp) (r0 : Int32) (h0 : Hp) (hf : f_X4_goOver a0 a1 a2 h = some (r0, h0)) : Mi l X yX4_goOver cX4_goOver 12 (some .int) 1 22 h [.ref (X.2.2.2 a0), .int a1, .int a2] r0 h0 := by
  refine BD_of (own := RX4) hI rfl (by decide) (Nat.le_of_ble_eq_true rfl) ?_
  intro p e s m args below meth c S hr hlk hK hN
  obtain ⟨hx, hb, hml, hown, hts⟩ := id S
  have B132 : ∀ (k22 : Int32 → Int32 → Int32 → Int32 → Int32 → Int32 → Hp → Option (Int32 × Hp)) (hk22 : ∀ (x3 : Int32) (x4 : Int32) (x5 : Int32) (x6 : Int32) (x7 : Int32) (x8 : Int32) (h : Hp), k22 x3 x4 x5 x6 x7 x8 h = some (r0, h0) → BK p l e ({ frames := 1, cells := 0, slots := 0, locals := 22 }) s m args below meth c (MQ below (cQi X r0 h0) args s 0 0 (AD X)) X 12 22 [(0, .ref (X.2.2.2 a0)), (1, .int a1), (3, .int x3), (4, .int x4), (5, .int x5), (6, .int x6), (7, .int x7), (8, .int x8)] [] h) (x3 : Int32) (x4 : Int32) (x5 : Int32) (x7 : Int32) (x8 : Int32) (x9 : Int32) (h : Hp), g_X4_goOver_132 a0 a1 a2 k22 x3 x4 x5 x7 x8 x9 h = some (r0, h0) → BK p l e ({ frames := 1, cells := 0, slots := 0, locals := 22 }) s m args below meth c (MQ below (cQi X r0 h0) args s 0 0 (AD X)) X 12 132 [(0, .ref (X.2.2.2 a0)), (1, .int a1), (3, .int x3), (4, .int x4), (5, .int x5), (7, .int x7), (8, .int x8), (9, .int x9)] [] h := by
    intro k22 hk22 x3 x4 x5 x7 x8 x9 h hf H locs ls hl hH
    unfold g_X4_goOver_132 at hf
    refine lv_iload hx hb dX4_goOver_132 (lv_at hl 7 rfl) ?_
    refine lv_istore (lv' := [(6, .int x9), (0, .ref (X.2.2.2 a0)), (1, .int a1), (3, .int x3), (4, .int x4), (5, .int x5), (7, .int x7), (8, .int x8), (9, .int x9)]) hx hb dX4_goOver_134 hl (by decide) rfl (fun ls hl => ?_)
    refine lv_iinc (v := (x8 + (1 : Int32))) (lv' := [(8, .int ((x8 + (1 : Int32)))), (6, .int x9), (0, .ref (X.2.2.2 a0)), (1, .int a1), (3, .int x3), (4, .int x4), (5, .int x5), (7, .int x7), (9, .int x9)]) hx hb dX4_goOver_136 hl (k := 7) rfl rfl (by decide) rfl (fun ls hl => ?_)
    refine lv_goto (tgt := 22) hx hb dX4_goOver_139 (by decide) ?_
    exact hk22 _ _ _ _ _ _ _ hf H locs ls (lv_sub hl [2, 3, 4, 5, 6, 1, 7, 0] rfl) hH
  have B108 : ∀ (k22 : Int32 → Int32 → Int32 → Int32 → Int32 → Int32 → Hp → Option (Int32 × Hp)) (hk22 : ∀ (x3 : Int32) (x4 : Int32) (x5 : Int32) (x6 : Int32) (x7 : Int32) (x8 : Int32) (h : Hp), k22 x3 x4 x5 x6 x7 x8 h = some (r0, h0) → BK p l e ({ frames := 1, cells := 0, slots := 0, locals := 22 }) s m args below meth c (MQ below (cQi X r0 h0) args s 0 0 (AD X)) X 12 22 [(0, .ref (X.2.2.2 a0)), (1, .int a1), (3, .int x3), (4, .int x4), (5, .int x5), (6, .int x6), (7, .int x7), (8, .int x8)] [] h) (x3 : Int32) (x4 : Int32) (x5 : Int32) (x7 : Int32) (x8 : Int32) (x9 : Int32) (z0 : Int32) (h : Hp), g_X4_goOver_108 a0 a1 a2 k22 x3 x4 x5 x7 x8 x9 z0 h = some (r0, h0) → BK p l e ({ frames := 1, cells := 0, slots := 0, locals := 22 }) s m args below meth c (MQ below (cQi X r0 h0) args s 0 0 (AD X)) X 12 108 [(0, .ref (X.2.2.2 a0)), (1, .int a1), (3, .int x3), (4, .int x4), (5, .int x5), (7, .int x7), (8, .int x8), (9, .int x9)] [.int z0] h := by
    intro k22 hk22 x3 x4 x5 x7 x8 x9 z0 h hf H locs ls hl hH
    unfold g_X4_goOver_108 at hf
    refine lv_istore (lv' := [(11, .int z0), (0, .ref (X.2.2.2 a0)), (1, .int a1), (3, .int x3), (4, .int x4), (5, .int x5), (7, .int x7), (8, .int x8), (9, .int x9)]) hx hb dX4_goOver_108 hl (by decide) rfl (fun ls hl => ?_)
    refine lv_iload hx hb dX4_goOver_110 (lv_at hl 0 rfl) ?_
    refine lv_if_eq (tgt := 132) hx hb dX4_goOver_112 (by decide) (fun c1 => ?_) (fun c1 => ?_)
    · replace hf := ite_t c1 hf
      exact B132 k22 hk22 _ _ _ _ _ _ _ hf H locs ls (lv_sub hl [1, 2, 3, 4, 5, 6, 7, 8] rfl) hH
    · replace hf := ite_f c1 hf
      refine lv_iload hx hb dX4_goOver_115 (lv_at hl 4 rfl) ?_
      refine lv_iload hx hb dX4_goOver_117 (lv_at hl 0 rfl) ?_
      refine lv_iload hx hb dX4_goOver_119 (lv_at hl 5 rfl) ?_
      refine lv_imul hx hb dX4_goOver_121 ?_
      refine lv_iadd hx hb dX4_goOver_122 ?_
      refine lv_istore (lv' := [(4, .int ((x4 + (z0 * x5)))), (11, .int z0), (0, .ref (X.2.2.2 a0)), (1, .int a1), (3, .int x3), (5, .int x5), (7, .int x7), (8, .int x8), (9, .int x9)]) hx hb dX4_goOver_123 hl (by decide) rfl (fun ls hl => ?_)
      refine lv_iload hx hb dX4_goOver_125 (lv_at hl 5 rfl) ?_
      refine lv_bipush (v := 10) hx hb dX4_goOver_127 (by decide) ?_
      refine lv_imul hx hb dX4_goOver_129 ?_
      refine lv_istore (lv' := [(5, .int ((x5 * (10 : Int32)))), (4, .int ((x4 + (z0 * x5)))), (11, .int z0), (0, .ref (X.2.2.2 a0)), (1, .int a1), (3, .int x3), (7, .int x7), (8, .int x8), (9, .int x9)]) hx hb dX4_goOver_130 hl (by decide) rfl (fun ls hl => ?_)
      exact B132 k22 hk22 _ _ _ _ _ _ _ hf H locs ls (lv_sub hl [3, 4, 5, 1, 0, 6, 7, 8] rfl) hH
  have B90 : ∀ (k22 : Int32 → Int32 → Int32 → Int32 → Int32 → Int32 → Hp → Option (Int32 × Hp)) (hk22 : ∀ (x3 : Int32) (x4 : Int32) (x5 : Int32) (x6 : Int32) (x7 : Int32) (x8 : Int32) (h : Hp), k22 x3 x4 x5 x6 x7 x8 h = some (r0, h0) → BK p l e ({ frames := 1, cells := 0, slots := 0, locals := 22 }) s m args below meth c (MQ below (cQi X r0 h0) args s 0 0 (AD X)) X 12 22 [(0, .ref (X.2.2.2 a0)), (1, .int a1), (3, .int x3), (4, .int x4), (5, .int x5), (6, .int x6), (7, .int x7), (8, .int x8)] [] h) (x3 : Int32) (x4 : Int32) (x5 : Int32) (x7 : Int32) (x8 : Int32) (x9 : Int32) (z0 : Int32) (h : Hp), g_X4_goOver_90 a0 a1 a2 k22 x3 x4 x5 x7 x8 x9 z0 h = some (r0, h0) → BK p l e ({ frames := 1, cells := 0, slots := 0, locals := 22 }) s m args below meth c (MQ below (cQi X r0 h0) args s 0 0 (AD X)) X 12 90 [(0, .ref (X.2.2.2 a0)), (1, .int a1), (3, .int x3), (4, .int x4), (5, .int x5), (7, .int x7), (8, .int x8), (9, .int x9)] [.int z0] h := by
    intro k22 hk22 x3 x4 x5 x7 x8 x9 z0 h hf H locs ls hl hH
    unfold g_X4_goOver_90 at hf
    refine lv_istore (lv' := [(10, .int z0), (0, .ref (X.2.2.2 a0)), (1, .int a1), (3, .int x3), (4, .int x4), (5, .int x5), (7, .int x7), (8, .int x8), (9, .int x9)]) hx hb dX4_goOver_90 hl (by decide) rfl (fun ls hl => ?_)
    refine lv_iload hx hb dX4_goOver_92 (lv_at hl 0 rfl) ?_
    refine lv_if_eq (tgt := 106) hx hb dX4_goOver_94 (by decide) (fun c2 => ?_) (fun c2 => ?_)
    · replace hf := ite_t c2 hf
      refine lv_iload hx hb dX4_goOver_106 (lv_at hl 8 rfl) ?_
      exact B108 k22 hk22 _ _ _ _ _ _ _ _ hf H locs ls (lv_sub hl [1, 2, 3, 4, 5, 6, 7, 8] rfl) hH
    · replace hf := ite_f c2 hf
      refine lv_aload_n hx hb dX4_goOver_97 rfl (lv_at hl 1 rfl) ?_
      refine lv_iload_n hx hb dX4_goOver_98 rfl (lv_at hl 2 rfl) ?_
      refine lv_iconst (v := 1) hx hb dX4_goOver_99 (by decide) ?_
      obtain ⟨r5, h4, hq3, hf⟩ := bnd_ok hf
      refine wk_callVi (ci := 4) (b := a0) (As := [.int a1, .int ((1 : Int32))]) (rest := []) S hK hN hH t0 (by decide) rfl (C_X4_signOf l X hI t0 a1 (1 : Int32) _ _ _ hq3) (cwV 2 hts (gV wU_in m_348 m_349 m_350 m_38 m_351) rfl rfl rfl hdV_X4_signOf ⟨Nat.le_of_ble_eq_true rfl, Nat.le_of_ble_eq_true rfl⟩) hl.1 rfl rfl (Nat.le_of_ble_eq_true rfl) dX4_goOver_100 ⟨Nat.zero_le _, Nat.zero_le _⟩ (fun H locs hH => ?_)
      refine lv_goto (tgt := 108) hx hb dX4_goOver_103 (by decide) ?_
      exact B108 k22 hk22 _ _ _ _ _ _ _ _ hf H locs ls (lv_sub hl [1, 2, 3, 4, 5, 6, 7, 8] rfl) hH
  have B89 : ∀ (k22 : Int32 → Int32 → Int32 → Int32 → Int32 → Int32 → Hp → Option (Int32 × Hp)) (hk22 : ∀ (x3 : Int32) (x4 : Int32) (x5 : Int32) (x6 : Int32) (x7 : Int32) (x8 : Int32) (h : Hp), k22 x3 x4 x5 x6 x7 x8 h = some (r0, h0) → BK p l e ({ frames := 1, cells := 0, slots := 0, locals := 22 }) s m args below meth c (MQ below (cQi X r0 h0) args s 0 0 (AD X)) X 12 22 [(0, .ref (X.2.2.2 a0)), (1, .int a1), (3, .int x3), (4, .int x4), (5, .int x5), (6, .int x6), (7, .int x7), (8, .int x8)] [] h) (x3 : Int32) (x4 : Int32) (x5 : Int32) (x7 : Int32) (x8 : Int32) (x9 : Int32) (h : Hp), g_X4_goOver_89 a0 a1 a2 k22 x3 x4 x5 x7 x8 x9 h = some (r0, h0) → BK p l e ({ frames := 1, cells := 0, slots := 0, locals := 22 }) s m args below meth c (MQ below (cQi X r0 h0) args s 0 0 (AD X)) X 12 89 [(0, .ref (X.2.2.2 a0)), (1, .int a1), (3, .int x3), (4, .int x4), (5, .int x5), (7, .int x7), (8, .int x8), (9, .int x9)] [] h := by
    intro k22 hk22 x3 x4 x5 x7 x8 x9 h hf H locs ls hl hH
    unfold g_X4_goOver_89 at hf
    refine lv_iconst (v := 0) hx hb dX4_goOver_89 (by decide) ?_
    exact B90 k22 hk22 _ _ _ _ _ _ _ _ hf H locs ls (lv_sub hl [0, 1, 2, 3, 4, 5, 6, 7] rfl) hH
  have B22 : ∀ (k22 : Int32 → Int32 → Int32 → Int32 → Int32 → Int32 → Hp → Option (Int32 × Hp)) (hk22 : ∀ (x3 : Int32) (x4 : Int32) (x5 : Int32) (x6 : Int32) (x7 : Int32) (x8 : Int32) (h : Hp), k22 x3 x4 x5 x6 x7 x8 h = some (r0, h0) → BK p l e ({ frames := 1, cells := 0, slots := 0, locals := 22 }) s m args below meth c (MQ below (cQi X r0 h0) args s 0 0 (AD X)) X 12 22 [(0, .ref (X.2.2.2 a0)), (1, .int a1), (3, .int x3), (4, .int x4), (5, .int x5), (6, .int x6), (7, .int x7), (8, .int x8)] [] h) (x3 : Int32) (x4 : Int32) (x5 : Int32) (x6 : Int32) (x7 : Int32) (x8 : Int32) (h : Hp), g_X4_goOver_22 a0 a1 a2 k22 x3 x4 x5 x6 x7 x8 h = some (r0, h0) → BK p l e ({ frames := 1, cells := 0, slots := 0, locals := 22 }) s m args below meth c (MQ below (cQi X r0 h0) args s 0 0 (AD X)) X 12 22 [(0, .ref (X.2.2.2 a0)), (1, .int a1), (3, .int x3), (4, .int x4), (5, .int x5), (6, .int x6), (7, .int x7), (8, .int x8)] [] h := by
    intro k22 hk22 x3 x4 x5 x6 x7 x8 h hf H locs ls hl hH
    unfold g_X4_goOver_22 at hf
    refine lv_iload hx hb dX4_goOver_22 (lv_at hl 7 rfl) ?_
    refine lv_bipush (v := 6) hx hb dX4_goOver_24 (by decide) ?_
    refine lv_icmp_ge (tgt := 142) hx hb dX4_goOver_26 (by decide) (fun c6 => ?_) (fun c6 => ?_)
    · replace hf := ite_t c6 hf
      refine lv_iload hx hb dX4_goOver_142 (lv_at hl 3 rfl) ?_
      exact wk_iret S hr hlk hK hN hH hf dX4_goOver_144
    · replace hf := ite_f c6 hf
      refine lv_iload hx hb dX4_goOver_29 (lv_at hl 6 rfl) ?_
      refine lv_if_le (tgt := 142) hx hb dX4_goOver_31 (by decide) (fun c7 => ?_) (fun c7 => ?_)
      · replace hf := ite_t c7 hf
        refine lv_iload hx hb dX4_goOver_142 (lv_at hl 3 rfl) ?_
        exact wk_iret S hr hlk hK hN hH hf dX4_goOver_144
      · replace hf := ite_f c7 hf
        refine lv_iload hx hb dX4_goOver_34 (lv_at hl 6 rfl) ?_
        refine lv_bipush (v := 10) hx hb dX4_goOver_36 (by decide) ?_
        refine lv_irem hx hb dX4_goOver_38 (by decide) ?_
        refine lv_istore (lv' := [(9, .int ((x7 - x7 / (10 : Int32) * (10 : Int32)))), (0, .ref (X.2.2.2 a0)), (1, .int a1), (3, .int x3), (4, .int x4), (5, .int x5), (6, .int x6), (7, .int x7), (8, .int x8)]) hx hb dX4_goOver_39 hl (by decide) rfl (fun ls hl => ?_)
        refine lv_iload hx hb dX4_goOver_41 (lv_at hl 7 rfl) ?_
        refine lv_bipush (v := 10) hx hb dX4_goOver_43 (by decide) ?_
        refine lv_idiv hx hb dX4_goOver_45 (by decide) ?_
        refine lv_istore (lv' := [(7, .int ((x7 / (10 : Int32)))), (9, .int ((x7 - x7 / (10 : Int32) * (10 : Int32)))), (0, .ref (X.2.2.2 a0)), (1, .int a1), (3, .int x3), (4, .int x4), (5, .int x5), (6, .int x6), (8, .int x8)]) hx hb dX4_goOver_46 hl (by decide) rfl (fun ls hl => ?_)
        refine lv_iload hx hb dX4_goOver_48 (lv_at hl 1 rfl) ?_
        refine lv_iload_n hx hb dX4_goOver_50 rfl (lv_at hl 4 rfl) ?_
        refine lv_icmp_ne (tgt := 89) hx hb dX4_goOver_51 (by decide) (fun c8 => ?_) (fun c8 => ?_)
        · replace hf := ite_f c8 hf
          exact B89 k22 hk22 _ _ _ _ _ _ _ hf H locs ls (lv_sub hl [2, 3, 4, 5, 6, 0, 8, 1] rfl) hH
        · replace hf := ite_t c8 hf
          refine lv_aload_n hx hb dX4_goOver_54 rfl (lv_at hl 2 rfl) ?_
          refine lv_iload_n hx hb dX4_goOver_55 rfl (lv_at hl 3 rfl) ?_
          refine lv_iconst (v := 2) hx hb dX4_goOver_56 (by decide) ?_
          obtain ⟨r11, h10, hq9, hf⟩ := bnd_ok hf
          refine wk_callVi (ci := 4) (b := a0) (As := [.int a1, .int ((2 : Int32))]) (rest := []) S hK hN hH t0 (by decide) rfl (C_X4_signOf l X hI t0 a1 (2 : Int32) _ _ _ hq9) (cwV 2 hts (gV wU_in m_348 m_349 m_350 m_38 m_351) rfl rfl rfl hdV_X4_signOf ⟨Nat.le_of_ble_eq_true rfl, Nat.le_of_ble_eq_true rfl⟩) hl.1 rfl rfl (Nat.le_of_ble_eq_true rfl) dX4_goOver_57 ⟨Nat.zero_le _, Nat.zero_le _⟩ (fun H locs hH => ?_)
          refine lv_iload hx hb dX4_goOver_60 (lv_at hl 0 rfl) ?_
          refine lv_bipush (v := 10) hx hb dX4_goOver_62 (by decide) ?_
          refine lv_irem hx hb dX4_goOver_64 (by decide) ?_
          obtain ⟨r14, h13, hq12, hf⟩ := bnd_ok hf
          refine wk_callSi (As := [.int r11, .int (((x7 / (10 : Int32)) - (x7 / (10 : Int32)) / (10 : Int32) * (10 : Int32)))]) (rest := []) S hK hN hH (C_X5_fits l X hI r11 ((x7 / (10 : Int32)) - (x7 / (10 : Int32)) / (10 : Int32) * (10 : Int32)) _ _ _ hq12) (va_cwS 2 hts (gS wU_in m_352 m_353 m_43 m_354) rfl rfl rfl hdS_X5_fits ⟨Nat.le_of_ble_eq_true rfl, Nat.le_of_ble_eq_true rfl⟩) hl.1 rfl rfl (Nat.le_of_ble_eq_true rfl) dX4_goOver_65 ⟨Nat.zero_le _, Nat.zero_le _⟩ (fun H locs hH => ?_)
          refine lv_if_eq (tgt := 89) hx hb dX4_goOver_68 (by decide) (fun c15 => ?_) (fun c15 => ?_)
          · replace hf := ite_t c15 hf
            exact B89 k22 hk22 _ _ _ _ _ _ _ hf H locs ls (lv_sub hl [2, 3, 4, 5, 6, 0, 8, 1] rfl) hH
          · replace hf := ite_f c15 hf
            refine lv_aload_n hx hb dX4_goOver_71 rfl (lv_at hl 2 rfl) ?_
            refine lv_iload_n hx hb dX4_goOver_72 rfl (lv_at hl 3 rfl) ?_
            refine lv_iconst (v := 3) hx hb dX4_goOver_73 (by decide) ?_
            obtain ⟨r18, h17, hq16, hf⟩ := bnd_ok hf
            refine wk_callVi (ci := 4) (b := a0) (As := [.int a1, .int ((3 : Int32))]) (rest := []) S hK hN hH t0 (by decide) rfl (C_X4_signOf l X hI t0 a1 (3 : Int32) _ _ _ hq16) (cwV 2 hts (gV wU_in m_348 m_349 m_350 m_38 m_351) rfl rfl rfl hdV_X4_signOf ⟨Nat.le_of_ble_eq_true rfl, Nat.le_of_ble_eq_true rfl⟩) hl.1 rfl rfl (Nat.le_of_ble_eq_true rfl) dX4_goOver_74 ⟨Nat.zero_le _, Nat.zero_le _⟩ (fun H locs hH => ?_)
            refine lv_iload hx hb dX4_goOver_77 (lv_at hl 7 rfl) ?_
            obtain ⟨r21, h20, hq19, hf⟩ := bnd_ok hf
            refine wk_callSi (As := [.int r18, .int x6]) (rest := []) S hK hN hH (C_X5_fits l X hI r18 x6 _ _ _ hq19) (va_cwS 2 hts (gS wU_in m_352 m_353 m_43 m_354) rfl rfl rfl hdS_X5_fits ⟨Nat.le_of_ble_eq_true rfl, Nat.le_of_ble_eq_true rfl⟩) hl.1 rfl rfl (Nat.le_of_ble_eq_true rfl) dX4_goOver_79 ⟨Nat.zero_le _, Nat.zero_le _⟩ (fun H locs hH => ?_)
            refine lv_if_eq (tgt := 89) hx hb dX4_goOver_82 (by decide) (fun c22 => ?_) (fun c22 => ?_)
            · replace hf := ite_t c22 hf
              exact B89 k22 hk22 _ _ _ _ _ _ _ hf H locs ls (lv_sub hl [2, 3, 4, 5, 6, 0, 8, 1] rfl) hH
            · replace hf := ite_f c22 hf
              refine lv_iconst (v := 1) hx hb dX4_goOver_85 (by decide) ?_
              refine lv_goto (tgt := 90) hx hb dX4_goOver_86 (by decide) ?_
              exact B90 k22 hk22 _ _ _ _ _ _ _ _ hf H locs ls (lv_sub hl [2, 3, 4, 5, 6, 0, 8, 1] rfl) hH
  have BL22 : ∀ (n : Nat) (x3 : Int32) (x4 : Int32) (x5 : Int32) (x6 : Int32) (x7 : Int32) (x8 : Int32) (h : Hp), f_X4_goOver_22 a0 a1 a2 n x3 x4 x5 x6 x7 x8 h = some (r0, h0) → BK p l e ({ frames := 1, cells := 0, slots := 0, locals := 22 }) s m args below meth c (MQ below (cQi X r0 h0) args s 0 0 (AD X)) X 12 22 [(0, .ref (X.2.2.2 a0)), (1, .int a1), (3, .int x3), (4, .int x4), (5, .int x5), (6, .int x6), (7, .int x7), (8, .int x8)] [] h := by
    intro n
    induction n with
    | zero => intro x3 x4 x5 x6 x7 x8 h hf; cases hf
    | succ n ih => intro x3 x4 x5 x6 x7 x8 h hf; exact B22 _ ih _ _ _ _ _ _ _ hf
  intro H locs ls hl hH
  replace hl : lv_has ls 12 [(0, .ref (X.2.2.2 a0)), (1, .int a1), (2, .int a2)] := hl
  unfold f_X4_goOver at hf
  refine lv_aload_n hx hb dX4_goOver_0 rfl (lv_at hl 0 rfl) ?_
  refine lv_iload_n hx hb dX4_goOver_1 rfl (lv_at hl 1 rfl) ?_
  refine lv_iconst (v := 0) hx hb dX4_goOver_2 (by decide) ?_
  obtain ⟨r25, h24, hq23, hf⟩ := bnd_ok hf
  refine wk_callVi (ci := 4) (b := a0) (As := [.int a1, .int ((0 : Int32))]) (rest := []) S hK hN hH t0 (by decide) rfl (C_X4_signOf l X hI t0 a1 (0 : Int32) _ _ _ hq23) (cwV 2 hts (gV wU_in m_348 m_349 m_350 m_38 m_351) rfl rfl rfl hdV_X4_signOf ⟨Nat.le_of_ble_eq_true rfl, Nat.le_of_ble_eq_true rfl⟩) hl.1 rfl rfl (Nat.le_of_ble_eq_true rfl) dX4_goOver_3 ⟨Nat.zero_le _, Nat.zero_le _⟩ (fun H locs hH => ?_)
  refine lv_istore_n (lv' := [(3, .int r25), (0, .ref (X.2.2.2 a0)), (1, .int a1), (2, .int a2)]) hx hb dX4_goOver_6 rfl hl (by decide) rfl (fun ls hl => ?_)
  refine lv_iconst (v := 0) hx hb dX4_goOver_7 (by decide) ?_
  refine lv_istore (lv' := [(4, .int ((0 : Int32))), (3, .int r25), (0, .ref (X.2.2.2 a0)), (1, .int a1), (2, .int a2)]) hx hb dX4_goOver_8 hl (by decide) rfl (fun ls hl => ?_)
  refine lv_iconst (v := 1) hx hb dX4_goOver_10 (by decide) ?_
  refine lv_istore (lv' := [(5, .int ((1 : Int32))), (4, .int ((0 : Int32))), (3, .int r25), (0, .ref (X.2.2.2 a0)), (1, .int a1), (2, .int a2)]) hx hb dX4_goOver_11 hl (by decide) rfl (fun ls hl => ?_)
  refine lv_iconst (v := 0) hx hb dX4_goOver_13 (by decide) ?_
  refine lv_istore (lv' := [(6, .int ((0 : Int32))), (5, .int ((1 : Int32))), (4, .int ((0 : Int32))), (3, .int r25), (0, .ref (X.2.2.2 a0)), (1, .int a1), (2, .int a2)]) hx hb dX4_goOver_14 hl (by decide) rfl (fun ls hl => ?_)
  refine lv_iload_n hx hb dX4_goOver_16 rfl (lv_at hl 6 rfl) ?_
  refine lv_istore (lv' := [(7, .int a2), (6, .int ((0 : Int32))), (5, .int ((1 : Int32))), (4, .int ((0 : Int32))), (3, .int r25), (0, .ref (X.2.2.2 a0)), (1, .int a1), (2, .int a2)]) hx hb dX4_goOver_17 hl (by decide) rfl (fun ls hl => ?_)
  refine lv_iconst (v := 0) hx hb dX4_goOver_19 (by decide) ?_
  refine lv_istore (lv' := [(8, .int ((0 : Int32))), (7, .int a2), (6, .int ((0 : Int32))), (5, .int ((1 : Int32))), (4, .int ((0 : Int32))), (3, .int r25), (0, .ref (X.2.2.2 a0)), (1, .int a1), (2, .int a2)]) hx hb dX4_goOver_20 hl (by decide) rfl (fun ls hl => ?_)
  exact BL22 FU _ _ _ _ _ _ _ hf H locs ls (lv_sub hl [6, 7, 5, 4, 3, 2, 1, 0] rfl) hH
set_option maxHeartbeats 4000000 in
set_option maxRecDepth 100000 in
theorem C_X4_walk (l : Launch) (X : Cx) (hI : Inj X) {a0 : Nat} (t0 : tY a0 = 4) (a1 : Int32) (a2 : Int32) (h : Hp) (r0 : Int32) (h0 : Hp) (hf : f_X4_walk a0 a1 a2 h = some (r0, h0)) : Mi l X yX4_walk cX4_walk 5 (some .int) 2 53 h [.ref (X.2.2.2 a0), .int a1, .int a2] r0 h0 := by
  refine BD_of (own := RX4) hI rfl (by decide) (Nat.le_of_ble_eq_true rfl) ?_
  intro p e s m args below meth c S hr hlk hK hN
  obtain ⟨hx, hb, hml, hown, hts⟩ := id S
  have B5 : ∀ (k5 : Int32 → Int32 → Hp → Option (Int32 × Hp)) (hk5 : ∀ (x3 : Int32) (x4 : Int32) (h : Hp), k5 x3 x4 h = some (r0, h0) → BK p l e ({ frames := 2, cells := 0, slots := 0, locals := 53 }) s m args below meth c (MQ below (cQi X r0 h0) args s 0 0 (AD X)) X 5 5 [(0, .ref (X.2.2.2 a0)), (2, .int a2), (3, .int x3), (4, .int x4)] [] h) (x3 : Int32) (x4 : Int32) (h : Hp), g_X4_walk_5 a0 a1 a2 k5 x3 x4 h = some (r0, h0) → BK p l e ({ frames := 2, cells := 0, slots := 0, locals := 53 }) s m args below meth c (MQ below (cQi X r0 h0) args s 0 0 (AD X)) X 5 5 [(0, .ref (X.2.2.2 a0)), (2, .int a2), (3, .int x3), (4, .int x4)] [] h := by
    intro k5 hk5 x3 x4 h hf H locs ls hl hH
    unfold g_X4_walk_5 at hf
    refine lv_iload hx hb dX4_walk_5 (lv_at hl 3 rfl) ?_
    refine lv_iload_n hx hb dX4_walk_7 rfl (lv_at hl 1 rfl) ?_
    refine lv_icmp_ge (tgt := 30) hx hb dX4_walk_8 (by decide) (fun c1 => ?_) (fun c1 => ?_)
    · replace hf := ite_t c1 hf
      refine lv_iload_n hx hb dX4_walk_30 rfl (lv_at hl 2 rfl) ?_
      exact wk_iret S hr hlk hK hN hH hf dX4_walk_31
    · replace hf := ite_f c1 hf
      refine lv_aload_n hx hb dX4_walk_11 rfl (lv_at hl 0 rfl) ?_
      refine lv_aload_n hx hb dX4_walk_12 rfl (lv_at hl 0 rfl) ?_
      refine wk_getr (ci := 4) (k := 2) S hK hH j_X4 t0 rfl hq_4_2 (hts _ (wU_in _ m_145)) dX4_walk_13 ?_
      refine lv_iload hx hb dX4_walk_16 (lv_at hl 3 rfl) ?_
      obtain ⟨o2, hf⟩ := ite_ok hf
      refine wk_iald S hK hH (tr_4_2 t0) o2 dX4_walk_18 ?_
      refine lv_iload_n hx hb dX4_walk_19 rfl (lv_at hl 2 rfl) ?_
      obtain ⟨r5, h4, hq3, hf⟩ := bnd_ok hf
      refine wk_callVi (ci := 4) (b := a0) (As := [.int ((h.1 (rF a0 2) (x4).toNatClampNeg)), .int x3]) (rest := []) S hK hN hH t0 (by decide) rfl (C_X4_goOver l X hI t0 (h.1 (rF a0 2) (x4).toNatClampNeg) x3 _ _ _ hq3) (cwV 2 hts (gV wU_in m_344 m_345 m_346 m_38 m_347) rfl rfl rfl hdV_X4_goOver ⟨Nat.le_of_ble_eq_true rfl, Nat.le_of_ble_eq_true rfl⟩) hl.1 rfl rfl (Nat.le_of_ble_eq_true rfl) dX4_walk_20 ⟨Nat.zero_le _, Nat.zero_le _⟩ (fun H locs hH => ?_)
      refine lv_istore_n (lv' := [(3, .int r5), (0, .ref (X.2.2.2 a0)), (2, .int a2), (4, .int x4)]) hx hb dX4_walk_23 rfl hl (by decide) rfl (fun ls hl => ?_)
      refine lv_iinc (v := (x4 + (1 : Int32))) (lv' := [(4, .int ((x4 + (1 : Int32)))), (3, .int r5), (0, .ref (X.2.2.2 a0)), (2, .int a2)]) hx hb dX4_walk_24 hl (k := 3) rfl rfl (by decide) rfl (fun ls hl => ?_)
      refine lv_goto (tgt := 5) hx hb dX4_walk_27 (by decide) ?_
      exact hk5 _ _ _ hf H locs ls (lv_sub hl [2, 3, 1, 0] rfl) hH
  have BL5 : ∀ (n : Nat) (x3 : Int32) (x4 : Int32) (h : Hp), f_X4_walk_5 a0 a1 a2 n x3 x4 h = some (r0, h0) → BK p l e ({ frames := 2, cells := 0, slots := 0, locals := 53 }) s m args below meth c (MQ below (cQi X r0 h0) args s 0 0 (AD X)) X 5 5 [(0, .ref (X.2.2.2 a0)), (2, .int a2), (3, .int x3), (4, .int x4)] [] h := by
    intro n
    induction n with
    | zero => intro x3 x4 h hf; cases hf
    | succ n ih => intro x3 x4 h hf; exact B5 _ ih _ _ _ hf
  intro H locs ls hl hH
  replace hl : lv_has ls 5 [(0, .ref (X.2.2.2 a0)), (1, .int a1), (2, .int a2)] := hl
  unfold f_X4_walk at hf
  refine lv_iload_n hx hb dX4_walk_0 rfl (lv_at hl 1 rfl) ?_
  refine lv_istore_n (lv' := [(3, .int a1), (0, .ref (X.2.2.2 a0)), (1, .int a1), (2, .int a2)]) hx hb dX4_walk_1 rfl hl (by decide) rfl (fun ls hl => ?_)
  refine lv_iconst (v := 0) hx hb dX4_walk_2 (by decide) ?_
  refine lv_istore (lv' := [(4, .int ((0 : Int32))), (3, .int a1), (0, .ref (X.2.2.2 a0)), (1, .int a1), (2, .int a2)]) hx hb dX4_walk_3 hl (by decide) rfl (fun ls hl => ?_)
  exact BL5 FU _ _ _ hf H locs ls (lv_sub hl [2, 4, 1, 0] rfl) hH
