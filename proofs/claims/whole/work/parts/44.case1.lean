set_option maxHeartbeats 4000000 in
set_option maxRecDepth 100000 in
theorem Lc_0 {p : Program} {l : Launch} {e : Env} {s : State} {m : MethodId} {below : List Frame} {meth : Method} {c : Code} {b L : Nat} {xs : Nat → Int32} {X : Cx} {fa : Nat} (G : LX p s m c b L xs X fa) {i : Nat} (hi : i + 5 ≤ L) (nx : LB p l e s m below meth c b X i 1067) : LB p l e s m below meth c b X i 160 := by
  obtain ⟨S, hK, hN, hX, hbl, hF, hL⟩ := G
  obtain ⟨hx, hb, hml, hown, hts⟩ := id S
  have hbA : ¬ nA s b := fun z => by have z : s.heap.size ≤ b := z; omega
  intro H locs ls h hl hH hR
  have hI := hH.2.2.1
  refine lv_aload_n hx hb dL_law_160 rfl (lv_at hl 1 rfl) ?_
  refine lv_aload_n hx hb dL_law_161 rfl (lv_at hl 0 rfl) ?_
  refine lv_iload_n hx hb dL_law_162 rfl (lv_at hl 3 rfl) ?_
  refine lv_iconst (v := 1) hx hb dL_law_163 (by decide) ?_
  refine lv_iadd hx hb dL_law_164 ?_
  refine va_sld (A := nA s) hx hb hX hbl hbA hH.2.1 (vin 1 (by decide) hi hL) dL_law_165 ?_
  obtain ⟨r, h1, h2, e1, e2, hR2⟩ := st_write hR ((xs (nI i + 1).toNatClampNeg))
  refine wk_callVi (ci := 5) (b := 0) (As := [.int (xs (nI i + 1).toNatClampNeg)]) (rest := []) S hK hN hH rfl (by decide) rfl (C_X6_write l X hI rfl _ _ _ _ e1) (cwV 1 hts (gV tTl m_244 m_245 m_246 m_35 m_247) rfl rfl rfl hdV_X6_write ⟨Nat.le_of_ble_eq_true rfl, Nat.le_of_ble_eq_true rfl⟩) hl.1 rfl rfl (Nat.le_of_ble_eq_true rfl) dL_law_166 ⟨Nat.le_of_ble_eq_true rfl, Nat.le_of_ble_eq_true rfl⟩ (fun H locs hH => ?_)
  refine lv_aload_n hx hb dL_law_169 rfl (lv_at hl 2 rfl) ?_
  refine lv_aload_n hx hb dL_law_170 rfl (lv_at hl 0 rfl) ?_
  refine lv_iload_n hx hb dL_law_171 rfl (lv_at hl 3 rfl) ?_
  refine lv_iconst (v := 1) hx hb dL_law_172 (by decide) ?_
  refine lv_iadd hx hb dL_law_173 ?_
  refine va_sld (A := nA s) hx hb hX hbl hbA hH.2.1 (vin 1 (by decide) hi hL) dL_law_174 ?_
  refine wk_callVi (ci := 6) (b := 41) (As := [.int (xs (nI i + 1).toNatClampNeg)]) (rest := [.int r]) S hK hN hH rfl (by decide) rfl (C_X7_write l X hI rfl _ _ _ _ e2) (cwV 1 hts (gV tTl m_715 m_716 m_717 m_41 m_718) rfl rfl rfl hdV_X7_write ⟨Nat.le_of_ble_eq_true rfl, Nat.le_of_ble_eq_true rfl⟩) hl.1 rfl rfl (Nat.le_of_ble_eq_true rfl) dL_law_175 ⟨Nat.le_of_ble_eq_true rfl, Nat.le_of_ble_eq_true rfl⟩ (fun H locs hH => ?_)
  refine lv_icmp_eq (tgt := 1067) hx hb dL_law_178 (by decide) (fun _ => ?_) (fun c1 => absurd rfl c1)
  exact nx H locs ls h2 hl hH hR2
set_option maxHeartbeats 4000000 in
set_option maxRecDepth 100000 in
theorem Lc_1 {p : Program} {l : Launch} {e : Env} {s : State} {m : MethodId} {below : List Frame} {meth : Method} {c : Code} {b L : Nat} {xs : Nat → Int32} {X : Cx} {fa : Nat} (G : LX p s m c b L xs X fa) {i : Nat} (hi : i + 5 ≤ L) (nx : LB p l e s m below meth c b X i 1067) : LB p l e s m below meth c b X i 183 := by
  obtain ⟨S, hK, hN, hX, hbl, hF, hL⟩ := G
  obtain ⟨hx, hb, hml, hown, hts⟩ := id S
  have hbA : ¬ nA s b := fun z => by have z : s.heap.size ≤ b := z; omega
  intro H locs ls h hl hH hR
  have hI := hH.2.2.1
  refine lv_aload_n hx hb dL_law_183 rfl (lv_at hl 1 rfl) ?_
  obtain ⟨r, h1, h2, e1, e2, hR2⟩ := st_wipe hR
  refine wk_callVi (ci := 5) (b := 0) (As := []) (rest := []) S hK hN hH rfl (by decide) rfl (C_X6_wipe l X hI rfl _ _ _ e1) (cwV 0 hts (gV tTl m_252 m_253 m_254 m_35 m_255) rfl rfl rfl hdV_X6_wipe ⟨Nat.le_of_ble_eq_true rfl, Nat.le_of_ble_eq_true rfl⟩) hl.1 rfl rfl (Nat.le_of_ble_eq_true rfl) dL_law_184 ⟨Nat.le_of_ble_eq_true rfl, Nat.le_of_ble_eq_true rfl⟩ (fun H locs hH => ?_)
  refine lv_aload_n hx hb dL_law_187 rfl (lv_at hl 2 rfl) ?_
  refine wk_callVi (ci := 6) (b := 41) (As := []) (rest := [.int r]) S hK hN hH rfl (by decide) rfl (C_X7_wipe l X hI rfl _ _ _ e2) (cwV 0 hts (gV tTl m_723 m_724 m_725 m_41 m_726) rfl rfl rfl hdV_X7_wipe ⟨Nat.le_of_ble_eq_true rfl, Nat.le_of_ble_eq_true rfl⟩) hl.1 rfl rfl (Nat.le_of_ble_eq_true rfl) dL_law_188 ⟨Nat.le_of_ble_eq_true rfl, Nat.le_of_ble_eq_true rfl⟩ (fun H locs hH => ?_)
  refine lv_icmp_eq (tgt := 1067) hx hb dL_law_191 (by decide) (fun _ => ?_) (fun c1 => absurd rfl c1)
  exact nx H locs ls h2 hl hH hR2
set_option maxHeartbeats 4000000 in
set_option maxRecDepth 100000 in
theorem Lc_2 {p : Program} {l : Launch} {e : Env} {s : State} {m : MethodId} {below : List Frame} {meth : Method} {c : Code} {b L : Nat} {xs : Nat → Int32} {X : Cx} {fa : Nat} (G : LX p s m c b L xs X fa) {i : Nat} (hi : i + 5 ≤ L) (nx : LB p l e s m below meth c b X i 1067) : LB p l e s m below meth c b X i 196 := by
  obtain ⟨S, hK, hN, hX, hbl, hF, hL⟩ := G
  obtain ⟨hx, hb, hml, hown, hts⟩ := id S
  have hbA : ¬ nA s b := fun z => by have z : s.heap.size ≤ b := z; omega
  intro H locs ls h hl hH hR
  have hI := hH.2.2.1
  refine lv_aload_n hx hb dL_law_196 rfl (lv_at hl 1 rfl) ?_
  refine lv_aload_n hx hb dL_law_197 rfl (lv_at hl 0 rfl) ?_
  refine lv_iload_n hx hb dL_law_198 rfl (lv_at hl 3 rfl) ?_
  refine lv_iconst (v := 1) hx hb dL_law_199 (by decide) ?_
  refine lv_iadd hx hb dL_law_200 ?_
  refine va_sld (A := nA s) hx hb hX hbl hbA hH.2.1 (vin 1 (by decide) hi hL) dL_law_201 ?_
  obtain ⟨r, h1, h2, e1, e2, hR2⟩ := st_fault hR ((xs (nI i + 1).toNatClampNeg))
  refine wk_callVi (ci := 5) (b := 0) (As := [.int (xs (nI i + 1).toNatClampNeg)]) (rest := []) S hK hN hH rfl (by decide) rfl (C_X6_fault l X hI rfl _ _ _ _ e1) (cwV 1 hts (gV tTl m_256 m_257 m_258 m_35 m_259) rfl rfl rfl hdV_X6_fault ⟨Nat.le_of_ble_eq_true rfl, Nat.le_of_ble_eq_true rfl⟩) hl.1 rfl rfl (Nat.le_of_ble_eq_true rfl) dL_law_202 ⟨Nat.le_of_ble_eq_true rfl, Nat.le_of_ble_eq_true rfl⟩ (fun H locs hH => ?_)
  refine lv_aload_n hx hb dL_law_205 rfl (lv_at hl 2 rfl) ?_
  refine lv_aload_n hx hb dL_law_206 rfl (lv_at hl 0 rfl) ?_
  refine lv_iload_n hx hb dL_law_207 rfl (lv_at hl 3 rfl) ?_
  refine lv_iconst (v := 1) hx hb dL_law_208 (by decide) ?_
  refine lv_iadd hx hb dL_law_209 ?_
  refine va_sld (A := nA s) hx hb hX hbl hbA hH.2.1 (vin 1 (by decide) hi hL) dL_law_210 ?_
  refine wk_callVi (ci := 6) (b := 41) (As := [.int (xs (nI i + 1).toNatClampNeg)]) (rest := [.int r]) S hK hN hH rfl (by decide) rfl (C_X7_fault l X hI rfl _ _ _ _ e2) (cwV 1 hts (gV tTl m_727 m_728 m_729 m_41 m_730) rfl rfl rfl hdV_X7_fault ⟨Nat.le_of_ble_eq_true rfl, Nat.le_of_ble_eq_true rfl⟩) hl.1 rfl rfl (Nat.le_of_ble_eq_true rfl) dL_law_211 ⟨Nat.le_of_ble_eq_true rfl, Nat.le_of_ble_eq_true rfl⟩ (fun H locs hH => ?_)
  refine lv_icmp_eq (tgt := 1067) hx hb dL_law_214 (by decide) (fun _ => ?_) (fun c1 => absurd rfl c1)
  exact nx H locs ls h2 hl hH hR2
set_option maxHeartbeats 4000000 in
set_option maxRecDepth 100000 in
theorem Lc_3 {p : Program} {l : Launch} {e : Env} {s : State} {m : MethodId} {below : List Frame} {meth : Method} {c : Code} {b L : Nat} {xs : Nat → Int32} {X : Cx} {fa : Nat} (G : LX p s m c b L xs X fa) {i : Nat} (hi : i + 5 ≤ L) (nx : LB p l e s m below meth c b X i 1067) : LB p l e s m below meth c b X i 219 := by
  obtain ⟨S, hK, hN, hX, hbl, hF, hL⟩ := G
  obtain ⟨hx, hb, hml, hown, hts⟩ := id S
  have hbA : ¬ nA s b := fun z => by have z : s.heap.size ≤ b := z; omega
  intro H locs ls h hl hH hR
  have hI := hH.2.2.1
  refine lv_aload_n hx hb dL_law_219 rfl (lv_at hl 1 rfl) ?_
  obtain ⟨r, h1, h2, e1, e2, hR2⟩ := st_list hR
  refine wk_callVi (ci := 5) (b := 0) (As := []) (rest := []) S hK hN hH rfl (by decide) rfl (C_X6_list l X hI rfl _ _ _ e1) (cwV 0 hts (gV tTl m_301 m_302 m_303 m_35 m_304) rfl rfl rfl hdV_X6_list ⟨Nat.le_of_ble_eq_true rfl, Nat.le_of_ble_eq_true rfl⟩) hl.1 rfl rfl (Nat.le_of_ble_eq_true rfl) dL_law_220 ⟨Nat.le_of_ble_eq_true rfl, Nat.le_of_ble_eq_true rfl⟩ (fun H locs hH => ?_)
  refine lv_aload_n hx hb dL_law_223 rfl (lv_at hl 2 rfl) ?_
  refine wk_callVi (ci := 6) (b := 41) (As := []) (rest := [.int r]) S hK hN hH rfl (by decide) rfl (C_X7_list l X hI rfl _ _ _ e2) (cwV 0 hts (gV tTl m_761 m_762 m_763 m_41 m_764) rfl rfl rfl hdV_X7_list ⟨Nat.le_of_ble_eq_true rfl, Nat.le_of_ble_eq_true rfl⟩) hl.1 rfl rfl (Nat.le_of_ble_eq_true rfl) dL_law_224 ⟨Nat.le_of_ble_eq_true rfl, Nat.le_of_ble_eq_true rfl⟩ (fun H locs hH => ?_)
  refine lv_icmp_eq (tgt := 1067) hx hb dL_law_227 (by decide) (fun _ => ?_) (fun c1 => absurd rfl c1)
  exact nx H locs ls h2 hl hH hR2
set_option maxHeartbeats 4000000 in
set_option maxRecDepth 100000 in
theorem Lc_4 {p : Program} {l : Launch} {e : Env} {s : State} {m : MethodId} {below : List Frame} {meth : Method} {c : Code} {b L : Nat} {xs : Nat → Int32} {X : Cx} {fa : Nat} (G : LX p s m c b L xs X fa) {i : Nat} (hi : i + 5 ≤ L) (nx : LB p l e s m below meth c b X i 1067) : LB p l e s m below meth c b X i 232 := by
  obtain ⟨S, hK, hN, hX, hbl, hF, hL⟩ := G
  obtain ⟨hx, hb, hml, hown, hts⟩ := id S
  have hbA : ¬ nA s b := fun z => by have z : s.heap.size ≤ b := z; omega
  intro H locs ls h hl hH hR
  have hI := hH.2.2.1
  refine lv_aload_n hx hb dL_law_232 rfl (lv_at hl 1 rfl) ?_
  refine lv_aload_n hx hb dL_law_233 rfl (lv_at hl 0 rfl) ?_
  refine lv_iload_n hx hb dL_law_234 rfl (lv_at hl 3 rfl) ?_
  refine lv_iconst (v := 1) hx hb dL_law_235 (by decide) ?_
  refine lv_iadd hx hb dL_law_236 ?_
  refine va_sld (A := nA s) hx hb hX hbl hbA hH.2.1 (vin 1 (by decide) hi hL) dL_law_237 ?_
  obtain ⟨r, h1, h2, e1, e2, hR2⟩ := st_about hR ((xs (nI i + 1).toNatClampNeg))
  refine wk_callVi (ci := 5) (b := 0) (As := [.int (xs (nI i + 1).toNatClampNeg)]) (rest := []) S hK hN hH rfl (by decide) rfl (C_X6_about l X hI rfl _ _ _ _ e1) (cwV 1 hts (gV tTl m_321 m_322 m_323 m_35 m_324) rfl rfl rfl hdV_X6_about ⟨Nat.le_of_ble_eq_true rfl, Nat.le_of_ble_eq_true rfl⟩) hl.1 rfl rfl (Nat.le_of_ble_eq_true rfl) dL_law_238 ⟨Nat.le_of_ble_eq_true rfl, Nat.le_of_ble_eq_true rfl⟩ (fun H locs hH => ?_)
  refine lv_aload_n hx hb dL_law_241 rfl (lv_at hl 2 rfl) ?_
  refine lv_aload_n hx hb dL_law_242 rfl (lv_at hl 0 rfl) ?_
  refine lv_iload_n hx hb dL_law_243 rfl (lv_at hl 3 rfl) ?_
  refine lv_iconst (v := 1) hx hb dL_law_244 (by decide) ?_
  refine lv_iadd hx hb dL_law_245 ?_
  refine va_sld (A := nA s) hx hb hX hbl hbA hH.2.1 (vin 1 (by decide) hi hL) dL_law_246 ?_
  refine wk_callVi (ci := 6) (b := 41) (As := [.int (xs (nI i + 1).toNatClampNeg)]) (rest := [.int r]) S hK hN hH rfl (by decide) rfl (C_X7_about l X hI rfl _ _ _ _ e2) (cwV 1 hts (gV tTl m_765 m_766 m_767 m_41 m_768) rfl rfl rfl hdV_X7_about ⟨Nat.le_of_ble_eq_true rfl, Nat.le_of_ble_eq_true rfl⟩) hl.1 rfl rfl (Nat.le_of_ble_eq_true rfl) dL_law_247 ⟨Nat.le_of_ble_eq_true rfl, Nat.le_of_ble_eq_true rfl⟩ (fun H locs hH => ?_)
  refine lv_icmp_eq (tgt := 1067) hx hb dL_law_250 (by decide) (fun _ => ?_) (fun c1 => absurd rfl c1)
  exact nx H locs ls h2 hl hH hR2
set_option maxHeartbeats 4000000 in
set_option maxRecDepth 100000 in
theorem Lc_5 {p : Program} {l : Launch} {e : Env} {s : State} {m : MethodId} {below : List Frame} {meth : Method} {c : Code} {b L : Nat} {xs : Nat → Int32} {X : Cx} {fa : Nat} (G : LX p s m c b L xs X fa) {i : Nat} (hi : i + 5 ≤ L) (nx : LB p l e s m below meth c b X i 1067) : LB p l e s m below meth c b X i 255 := by
  obtain ⟨S, hK, hN, hX, hbl, hF, hL⟩ := G
  obtain ⟨hx, hb, hml, hown, hts⟩ := id S
  have hbA : ¬ nA s b := fun z => by have z : s.heap.size ≤ b := z; omega
  intro H locs ls h hl hH hR
  have hI := hH.2.2.1
  refine lv_aload_n hx hb dL_law_255 rfl (lv_at hl 1 rfl) ?_
  refine lv_aload_n hx hb dL_law_256 rfl (lv_at hl 0 rfl) ?_
  refine lv_iload_n hx hb dL_law_257 rfl (lv_at hl 3 rfl) ?_
  refine lv_iconst (v := 1) hx hb dL_law_258 (by decide) ?_
  refine lv_iadd hx hb dL_law_259 ?_
  refine va_sld (A := nA s) hx hb hX hbl hbA hH.2.1 (vin 1 (by decide) hi hL) dL_law_260 ?_
  refine lv_aload_n hx hb dL_law_261 rfl (lv_at hl 0 rfl) ?_
  refine lv_iload_n hx hb dL_law_262 rfl (lv_at hl 3 rfl) ?_
  refine lv_iconst (v := 2) hx hb dL_law_263 (by decide) ?_
  refine lv_iadd hx hb dL_law_264 ?_
  refine va_sld (A := nA s) hx hb hX hbl hbA hH.2.1 (vin 2 (by decide) hi hL) dL_law_265 ?_
  obtain ⟨r, h1, h2, e1, e2, hR2⟩ := st_part hR ((xs (nI i + 1).toNatClampNeg)) ((xs (nI i + 2).toNatClampNeg))
  refine wk_callVi (ci := 5) (b := 0) (As := [.int (xs (nI i + 1).toNatClampNeg), .int (xs (nI i + 2).toNatClampNeg)]) (rest := []) S hK hN hH rfl (by decide) rfl (C_X6_part l X hI rfl _ _ _ _ _ e1) (cwV 2 hts (gV tTl m_387 m_388 m_389 m_35 m_390) rfl rfl rfl hdV_X6_part ⟨Nat.le_of_ble_eq_true rfl, Nat.le_of_ble_eq_true rfl⟩) hl.1 rfl rfl (Nat.le_of_ble_eq_true rfl) dL_law_266 ⟨Nat.le_of_ble_eq_true rfl, Nat.le_of_ble_eq_true rfl⟩ (fun H locs hH => ?_)
  refine lv_aload_n hx hb dL_law_269 rfl (lv_at hl 2 rfl) ?_
  refine lv_aload_n hx hb dL_law_270 rfl (lv_at hl 0 rfl) ?_
  refine lv_iload_n hx hb dL_law_271 rfl (lv_at hl 3 rfl) ?_
  refine lv_iconst (v := 1) hx hb dL_law_272 (by decide) ?_
  refine lv_iadd hx hb dL_law_273 ?_
  refine va_sld (A := nA s) hx hb hX hbl hbA hH.2.1 (vin 1 (by decide) hi hL) dL_law_274 ?_
  refine lv_aload_n hx hb dL_law_275 rfl (lv_at hl 0 rfl) ?_
  refine lv_iload_n hx hb dL_law_276 rfl (lv_at hl 3 rfl) ?_
  refine lv_iconst (v := 2) hx hb dL_law_277 (by decide) ?_
  refine lv_iadd hx hb dL_law_278 ?_
  refine va_sld (A := nA s) hx hb hX hbl hbA hH.2.1 (vin 2 (by decide) hi hL) dL_law_279 ?_
  refine wk_callVi (ci := 6) (b := 41) (As := [.int (xs (nI i + 1).toNatClampNeg), .int (xs (nI i + 2).toNatClampNeg)]) (rest := [.int r]) S hK hN hH rfl (by decide) rfl (C_X7_part l X hI rfl _ _ _ _ _ e2) (cwV 2 hts (gV tTl m_814 m_815 m_816 m_41 m_817) rfl rfl rfl hdV_X7_part ⟨Nat.le_of_ble_eq_true rfl, Nat.le_of_ble_eq_true rfl⟩) hl.1 rfl rfl (Nat.le_of_ble_eq_true rfl) dL_law_280 ⟨Nat.le_of_ble_eq_true rfl, Nat.le_of_ble_eq_true rfl⟩ (fun H locs hH => ?_)
  refine lv_icmp_eq (tgt := 1067) hx hb dL_law_283 (by decide) (fun _ => ?_) (fun c1 => absurd rfl c1)
  exact nx H locs ls h2 hl hH hR2
set_option maxHeartbeats 4000000 in
set_option maxRecDepth 100000 in
theorem Lc_6 {p : Program} {l : Launch} {e : Env} {s : State} {m : MethodId} {below : List Frame} {meth : Method} {c : Code} {b L : Nat} {xs : Nat → Int32} {X : Cx} {fa : Nat} (G : LX p s m c b L xs X fa) {i : Nat} (hi : i + 5 ≤ L) (nx : LB p l e s m below meth c b X i 1067) : LB p l e s m below meth c b X i 288 := by
  obtain ⟨S, hK, hN, hX, hbl, hF, hL⟩ := G
  obtain ⟨hx, hb, hml, hown, hts⟩ := id S
  have hbA : ¬ nA s b := fun z => by have z : s.heap.size ≤ b := z; omega
  intro H locs ls h hl hH hR
  have hI := hH.2.2.1
  refine lv_aload_n hx hb dL_law_288 rfl (lv_at hl 1 rfl) ?_
  refine lv_aload_n hx hb dL_law_289 rfl (lv_at hl 0 rfl) ?_
  refine lv_iload_n hx hb dL_law_290 rfl (lv_at hl 3 rfl) ?_
  refine lv_iconst (v := 1) hx hb dL_law_291 (by decide) ?_
  refine lv_iadd hx hb dL_law_292 ?_
  refine va_sld (A := nA s) hx hb hX hbl hbA hH.2.1 (vin 1 (by decide) hi hL) dL_law_293 ?_
  refine lv_aload_n hx hb dL_law_294 rfl (lv_at hl 0 rfl) ?_
  refine lv_iload_n hx hb dL_law_295 rfl (lv_at hl 3 rfl) ?_
  refine lv_iconst (v := 2) hx hb dL_law_296 (by decide) ?_
  refine lv_iadd hx hb dL_law_297 ?_
  refine va_sld (A := nA s) hx hb hX hbl hbA hH.2.1 (vin 2 (by decide) hi hL) dL_law_298 ?_
  obtain ⟨r, h1, h2, e1, e2, hR2⟩ := st_sign hR ((xs (nI i + 1).toNatClampNeg)) ((xs (nI i + 2).toNatClampNeg))
  refine wk_callVi (ci := 5) (b := 0) (As := [.int (xs (nI i + 1).toNatClampNeg), .int (xs (nI i + 2).toNatClampNeg)]) (rest := []) S hK hN hH rfl (by decide) rfl (C_X6_sign l X hI rfl _ _ _ _ _ e1) (cwV 2 hts (gV tTl m_399 m_400 m_401 m_35 m_402) rfl rfl rfl hdV_X6_sign ⟨Nat.le_of_ble_eq_true rfl, Nat.le_of_ble_eq_true rfl⟩) hl.1 rfl rfl (Nat.le_of_ble_eq_true rfl) dL_law_299 ⟨Nat.le_of_ble_eq_true rfl, Nat.le_of_ble_eq_true rfl⟩ (fun H locs hH => ?_)
  refine lv_aload_n hx hb dL_law_302 rfl (lv_at hl 2 rfl) ?_
  refine lv_aload_n hx hb dL_law_303 rfl (lv_at hl 0 rfl) ?_
  refine lv_iload_n hx hb dL_law_304 rfl (lv_at hl 3 rfl) ?_
  refine lv_iconst (v := 1) hx hb dL_law_305 (by decide) ?_
  refine lv_iadd hx hb dL_law_306 ?_
  refine va_sld (A := nA s) hx hb hX hbl hbA hH.2.1 (vin 1 (by decide) hi hL) dL_law_307 ?_
  refine lv_aload_n hx hb dL_law_308 rfl (lv_at hl 0 rfl) ?_
  refine lv_iload_n hx hb dL_law_309 rfl (lv_at hl 3 rfl) ?_
  refine lv_iconst (v := 2) hx hb dL_law_310 (by decide) ?_
  refine lv_iadd hx hb dL_law_311 ?_
  refine va_sld (A := nA s) hx hb hX hbl hbA hH.2.1 (vin 2 (by decide) hi hL) dL_law_312 ?_
  refine wk_callVi (ci := 6) (b := 41) (As := [.int (xs (nI i + 1).toNatClampNeg), .int (xs (nI i + 2).toNatClampNeg)]) (rest := [.int r]) S hK hN hH rfl (by decide) rfl (C_X7_sign l X hI rfl _ _ _ _ _ e2) (cwV 2 hts (gV tTl m_826 m_827 m_828 m_41 m_829) rfl rfl rfl hdV_X7_sign ⟨Nat.le_of_ble_eq_true rfl, Nat.le_of_ble_eq_true rfl⟩) hl.1 rfl rfl (Nat.le_of_ble_eq_true rfl) dL_law_313 ⟨Nat.le_of_ble_eq_true rfl, Nat.le_of_ble_eq_true rfl⟩ (fun H locs hH => ?_)
  refine lv_icmp_eq (tgt := 1067) hx hb dL_law_316 (by decide) (fun _ => ?_) (fun c1 => absurd rfl c1)
  exact nx H locs ls h2 hl hH hR2
