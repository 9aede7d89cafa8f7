theorem slot_of {x : Int32} (q : inI x 0 1 = true) : ∃ s : Nat, s < 2 ∧ x = nI s := by
  obtain ⟨i, hi, rfl⟩ := inI_0 (n := 1) (by decide) q
  exact ⟨i, by omega, rfl⟩
theorem rF29 {s : Nat} (hs : s < 2) : rF 29 s = 19 + 5 * s := by
  rcases (show s = 0 ∨ s = 1 by omega) with rfl | rfl <;> rfl
theorem st_keep {h : Hp} (H : Rel h) (x : Int32) : St (f_X6_keep 0 x) (f_X7_keep 41 x) h := by
  have H0 := H
  obtain ⟨C, hW, hS, hT, hG, hK, hD, hZ⟩ := H
  have hC := hW.1
  have eS : f_X6_isSlot x h = some (b01 (inI x 0 1), h) := has2 x (n := 2) (by decide) h
  by_cases q : inI x 0 1 = true
  · obtain ⟨s, hs, rfl⟩ := slot_of q
    have ok : okT (19 + 5 * s) 9 = true := by rcases (show s = 0 ∨ s = 1 by omega) with rfl | rfl <;> decide
    have vn : vp_nar .boolean 1 = 1 := rfl
    have b12 : (sI (tkF h (19 + 5 * s) 9) 30 s 1).1 12 = h.1 12 := by rw [rI_ne _ _ (by decide), tk_O (by omega) (by omega) (by omega) (by omega)]
    have b43 : (sI (sI (tkF h (19 + 5 * s) 9) 30 s 1) 47 s 1).1 43 = h.1 43 := by rw [rI_ne _ _ (by decide), rI_ne _ _ (by decide), tk_O (by omega) (by omega) (by omega) (by omega)]
    have b46 : (sI (sI (tkF h (19 + 5 * s) 9) 30 s 1) 47 s 1).1 46 = h.1 46 := by rw [rI_ne _ _ (by decide), rI_ne _ _ (by decide), tk_O (by omega) (by omega) (by omega) (by omega)]
    obtain ⟨kf, k1, k2, k3⟩ := q_keepL (h := sI (sI (tkF h (19 + 5 * s) 9) 30 s 1) 47 s 1) hs 32 FU 0 ((sI (sI (tkF h (19 + 5 * s) 9) 30 s 1) 47 s 1).1 46) (by decide) rfl (fun j hj => absurd hj (by omega)) (fun _ _ _ _ _ => rfl)
    rw [sA_self] at k3
    have f1 := p_fc (h := sI (tkF h (19 + 5 * s) 9) 30 s 1) (fm := h.1 12) (a := 9) (Or.inl rfl) (fun j _ => by show (sI (tkF h (19 + 5 * s) 9) 30 s 1).1 12 j = _; rw [b12])
    have f2 := q_fc (h := sA (sI (sI (tkF h (19 + 5 * s) 9) 30 s 1) 47 s 1) 46 kf) (fm := h.1 12) (fun j hj => by rw [sA_ne _ _ (by decide), b43]; exact hW.fm j hj)
    refine ⟨nI (fcN (h.1 12) 12), sI (tkF h (19 + 5 * s) 9) 30 s 1, sA (sI (sI (tkF h (19 + 5 * s) 9) 30 s 1) 47 s 1) 46 kf, ?_, ?_, ?_⟩
    · unfold f_X6_keep
      rw [eS, bnd_s, ifb, if_pos q, R0_4, R0_5, R0_2, N_29, N_30, if_pos (okI_n hs (by decide)), nI_clamp (by omega), rF29 hs, p_take ok, bind_s, if_pos (okI_n hs (by decide)), vn, f1, bnd_s]
    · unfold f_X7_keep
      rw [p_in32 _ _ _ 0 1 rfl rfl, bnd_s, ifb, if_pos q, R41_8, N_47, if_pos (okI_n hs (by decide)), nI_clamp (by omega), vn, L0, k3, f2, bnd_s]
    · have g : ∀ i, i ≠ 30 → i ≠ 46 → i ≠ 47 → i ≠ 19 + 5 * s → i ≠ 19 + 5 * s + 1 → i ≠ 19 + 5 * s + 2 → i ≠ 19 + 5 * s + 3 → (sA (sI (sI (tkF h (19 + 5 * s) 9) 30 s 1) 47 s 1) 46 kf).1 i = h.1 i := fun i z1 z2 z3 z4 z5 z6 z7 => by
        rw [sA_ne _ _ z2, rI_ne _ _ z3, rI_ne _ _ z1, tk_O z4 z5 z6 z7]
      have gs : ∀ i, i < 19 ∨ 28 < i → i ≠ 30 → i ≠ 46 → i ≠ 47 → (sA (sI (sI (tkF h (19 + 5 * s) 9) 30 s 1) 47 s 1) 46 kf).1 i = h.1 i := fun i z z1 z2 z3 => g i z1 z2 z3 (by omega) (by omega) (by omega) (by omega)
      refine ⟨C, RlW_c hW (by rw [gs 9 (by decide) (by decide) (by decide) (by decide)]) (by rw [gs 41 (by decide) (by decide) (by decide) (by decide)]) (gs _ (by decide) (by decide) (by decide) (by decide)) (gs _ (by decide) (by decide) (by decide) (by decide)) (gs _ (by decide) (by decide) (by decide) (by decide)) (gs _ (by decide) (by decide) (by decide) (by decide)),
        RlS_c hS (by rw [gs 6 (by decide) (by decide) (by decide) (by decide)]) (by rw [gs 6 (by decide) (by decide) (by decide) (by decide)]) (by rw [gs 41 (by decide) (by decide) (by decide) (by decide)]) (by rw [gs 41 (by decide) (by decide) (by decide) (by decide)]) (gs _ (by decide) (by decide) (by decide) (by decide)) (gs _ (by decide) (by decide) (by decide) (by decide)) (gs _ (by decide) (by decide) (by decide) (by decide)) (gs _ (by decide) (by decide) (by decide) (by decide)),
        RlT_c hT (by rw [gs 1 (by decide) (by decide) (by decide) (by decide)]) (by rw [gs 41 (by decide) (by decide) (by decide) (by decide)]) (gs _ (by decide) (by decide) (by decide) (by decide)) (gs _ (by decide) (by decide) (by decide) (by decide)),
        RlG_c hG (by rw [gs 36 (by decide) (by decide) (by decide) (by decide)]) (by rw [gs 41 (by decide) (by decide) (by decide) (by decide)]) (gs _ (by decide) (by decide) (by decide) (by decide)) (gs _ (by decide) (by decide) (by decide) (by decide)) (gs _ (by decide) (by decide) (by decide) (by decide)) (gs _ (by decide) (by decide) (by decide) (by decide)) (gs _ (by decide) (by decide) (by decide) (by decide)) (gs _ (by decide) (by decide) (by decide) (by decide)) (gs _ (by decide) (by decide) (by decide) (by decide)) (gs _ (by decide) (by decide) (by decide) (by decide)),
        fun j hj => ?_,
        RlD_c hD (by rw [gs 31 (by decide) (by decide) (by decide) (by decide)]) (by rw [gs 31 (by decide) (by decide) (by decide) (by decide)]) (by rw [gs 41 (by decide) (by decide) (by decide) (by decide)]) (by rw [gs 41 (by decide) (by decide) (by decide) (by decide)]) (gs _ (by decide) (by decide) (by decide) (by decide)) (gs _ (by decide) (by decide) (by decide) (by decide)) (gs _ (by decide) (by decide) (by decide) (by decide)) (gs _ (by decide) (by decide) (by decide) (by decide)) (gs _ (by decide) (by decide) (by decide) (by decide)) (gs _ (by decide) (by decide) (by decide) (by decide)) (gs _ (by decide) (by decide) (by decide) (by decide)) (gs _ (by decide) (by decide) (by decide) (by decide)), hZ⟩
      have e30 : (sA (sI (sI (tkF h (19 + 5 * s) 9) 30 s 1) 47 s 1) 46 kf).1 30 j = if j = s then 1 else h.1 30 j := by
        rw [sA_ne _ _ (by decide), rI_ne _ _ (by decide), rI, tk_O (by omega) (by omega) (by omega) (by omega)]
        simp
      have e47 : (sA (sI (sI (tkF h (19 + 5 * s) 9) 30 s 1) 47 s 1) 46 kf).1 47 j = if j = s then 1 else h.1 47 j := by
        rw [sA_ne _ _ (by decide), rI, rI_ne _ _ (by decide), tk_O (by omega) (by omega) (by omega) (by omega)]
        simp
      rw [e30, e47]
      by_cases qj : j = s
      · subst qj
        rw [if_pos rfl, if_pos rfl]
        have et : tr (sA (sI (sI (tkF h (19 + 5 * j) 9) 30 j 1) 47 j 1) 46 kf) (19 + 5 * j) = tr (tkF h (19 + 5 * j) 9) (19 + 5 * j) := by
          unfold tr
          rw [sA_ne _ _ (by omega), rI_ne _ _ (by omega), rI_ne _ _ (by omega), sA_ne _ _ (by omega), rI_ne _ _ (by omega), rI_ne _ _ (by omega), sA_ne _ _ (by omega), rI_ne _ _ (by omega), rI_ne _ _ (by omega)]
        refine ⟨rfl, Or.inr ⟨rfl, ?_, ?_, ?_⟩⟩
        · rw [sA_ne _ _ (by omega), rI_ne _ _ (by omega), rI_ne _ _ (by omega), tk_5]; exact hW.2.1
        · rw [et]; exact tk_VL hC hW.2.2.2.1
        · rw [et, sA_at]
          exact AG_cg hC (tk_AG hC hW.2.2.2.2) (fun i hi => by rw [k1 i hi, b43])
      · rw [if_neg qj, if_neg qj]
        have ea : ∀ i, i ≠ 46 → i ≠ 47 → i ≠ 30 → (i = 19 + 5 * j ∨ i = 19 + 5 * j + 1 ∨ i = 19 + 5 * j + 2 ∨ i = 19 + 5 * j + 3) → (sA (sI (sI (tkF h (19 + 5 * s) 9) 30 s 1) 47 s 1) 46 kf).1 i = h.1 i := fun i z1 z2 z3 z => g i z3 z1 z2 (by omega) (by omega) (by omega) (by omega)
        have et : tr (sA (sI (sI (tkF h (19 + 5 * s) 9) 30 s 1) 47 s 1) 46 kf) (19 + 5 * j) = tr h (19 + 5 * j) := by
          unfold tr
          rw [ea _ (by omega) (by omega) (by omega) (by omega), ea _ (by omega) (by omega) (by omega) (by omega), ea _ (by omega) (by omega) (by omega) (by omega)]
        obtain ⟨y1, y2⟩ := hK j hj
        refine ⟨y1, y2.imp id (fun ⟨w1, w2, w3, w4⟩ => ⟨w1, ?_, ?_, ?_⟩)⟩
        · rw [ea _ (by omega) (by omega) (by omega) (by omega)]; exact w2
        · rw [et]; exact w3
        · rw [et, sA_at]
          exact AG_cg hC w4 (fun i hi => by rw [k2 j i hj qj hi, b46])
  · refine St_ro H0 (r := -1) ?_ ?_
    · unfold f_X6_keep
      rw [eS, bnd_s, ifb, if_neg q]
    · unfold f_X7_keep
      rw [p_in32 _ _ _ 0 1 rfl rfl, bnd_s, ifb, if_neg q]
theorem st_again {h : Hp} (H : Rel h) (x : Int32) : St (f_X6_again 0 x) (f_X7_again 41 x) h := by
  have H0 := H
  obtain ⟨C, hW, hS, hT, hG, hK, ⟨n, f, y, hn, hf, hy, d5, d4, m5, m6, HDh⟩, hZ⟩ := H
  have hC := hW.1
  have eS : f_X6_isSlot x h = some (b01 (inI x 0 1), h) := has2 x (n := 2) (by decide) h
  by_cases q : inI x 0 1 = true
  · obtain ⟨s, hs, rfl⟩ := slot_of q
    obtain ⟨i1, i2⟩ := hK s hs
    by_cases q0 : h.1 30 s = 0
    · refine St_ro H0 (r := -3) ?_ ?_
      · unfold f_X6_again
        rw [eS, bnd_s, ifb, if_pos q, R0_5, N_30, if_pos (okI_n hs (by decide)), nI_clamp (by omega), if_pos q0]
      · unfold f_X7_again
        rw [p_in32 _ _ _ 0 1 rfl rfl, bnd_s, ifb, if_pos q, R41_8, N_47, if_pos (okI_n hs (by decide)), nI_clamp (by omega), if_pos (by rw [← i1]; exact q0)]
    · obtain ⟨w1, w2, w3, w4⟩ := i2.resolve_left q0
      have ok : okT 9 (19 + 5 * s) = true := by rcases (show s = 0 ∨ s = 1 by omega) with rfl | rfl <;> decide
      have cO : ∀ i, i ≠ 9 → i ≠ 10 → i ≠ 11 → i ≠ 12 → i ≠ 31 → (sI (tkF h 9 (19 + 5 * s)) 31 5 0).1 i = h.1 i := fun i z0 z1 z2 z3 z4 => by rw [rI_ne _ _ z4, tk_O z0 z1 z2 z3]
      obtain ⟨nw, k1, k3⟩ := q_againL (h := sI (tkF h 9 (19 + 5 * s)) 31 5 0) hs 32 FU 0 ((sI (tkF h 9 (19 + 5 * s)) 31 5 0).1 43) (by decide) rfl (fun j hj => absurd hj (by omega))
      rw [sA_self] at k3
      have nw1 : ∀ j, j < 32 → nw j = h.1 46 (32 * s + j) := fun j hj => by rw [k1 j hj, cO 46 (by decide) (by decide) (by decide) (by decide) (by decide)]
      have et : tr (sI (sA (sI (tkF h 9 (19 + 5 * s)) 31 5 0) 43 nw) 41 5 0) 9 = tr (tkF h 9 (19 + 5 * s)) 9 := by
        unfold tr
        rw [rI_ne _ _ (by decide), rI_ne _ _ (by decide), rI_ne _ _ (by decide), sA_ne _ _ (by decide), sA_ne _ _ (by decide), sA_ne _ _ (by decide), rI_ne _ _ (by decide), rI_ne _ _ (by decide), rI_ne _ _ (by decide)]
      have ag : AG C (tr (tkF h 9 (19 + 5 * s)) 9) nw := AG_cg hC (tk_AG hC w4) nw1
      have e12 : (sI (tkF h 9 (19 + 5 * s)) 31 5 0).1 12 = (tkF h 9 (19 + 5 * s)).1 12 := rI_ne _ _ (by decide)
      have f1 := p_fc (h := sI (tkF h 9 (19 + 5 * s)) 31 5 0) (fm := (tkF h 9 (19 + 5 * s)).1 12) (a := 9) (Or.inl rfl) (fun j _ => by show (sI (tkF h 9 (19 + 5 * s)) 31 5 0).1 12 j = _; rw [e12])
      have f2 := q_fc (h := sI (sA (sI (tkF h 9 (19 + 5 * s)) 31 5 0) 43 nw) 41 5 0) (fm := (tkF h 9 (19 + 5 * s)).1 12) (fun j hj => by rw [rI_ne _ _ (by decide), sA_at]; exact (ag.2.2 j hj).symm)
      refine ⟨nI (fcN ((tkF h 9 (19 + 5 * s)).1 12) 12), sI (tkF h 9 (19 + 5 * s)) 31 5 0, sI (sA (sI (tkF h 9 (19 + 5 * s)) 31 5 0) 43 nw) 41 5 0, ?_, ?_, ?_⟩
      · unfold f_X6_again
        rw [eS, bnd_s, ifb, if_pos q, R0_5, N_30, if_pos (okI_n hs (by decide)), nI_clamp (by omega), if_neg q0, R0_4, R0_2, R0_6, N_29, if_pos (okI_n hs (by decide)), rF29 hs, p_take ok, bind_s, f1, bnd_s]
      · unfold f_X7_again
        rw [p_in32 _ _ _ 0 1 rfl rfl, bnd_s, ifb, if_pos q, R41_8, N_47, if_pos (okI_n hs (by decide)), nI_clamp (by omega), cO 47 (by decide) (by decide) (by decide) (by decide) (by decide), if_neg (by rw [← i1]; exact q0)]
        show f_X7_again_26 41 (nI s) FU (nI 0) _ = _
        rw [k3, f2, bnd_s]
      · have g : ∀ i, i ≠ 9 → i ≠ 10 → i ≠ 11 → i ≠ 12 → i ≠ 31 → i ≠ 41 → i ≠ 43 → (sI (sA (sI (tkF h 9 (19 + 5 * s)) 31 5 0) 43 nw) 41 5 0).1 i = h.1 i := fun i z0 z1 z2 z3 z4 z5 z6 => by
          rw [rI_ne _ _ z5, sA_ne _ _ z6, cO i z0 z1 z2 z3 z4]
        have g41 : ∀ j, j ≠ 5 → (sI (sA (sI (tkF h 9 (19 + 5 * s)) 31 5 0) 43 nw) 41 5 0).1 41 j = h.1 41 j := fun j z => by
          rw [rI_k _ _ z, sA_ne _ _ (by decide), cO 41 (by decide) (by decide) (by decide) (by decide) (by decide)]
        refine ⟨C, ⟨hC, ?_, ?_, by rw [et]; exact tk_VL hC w3, by rw [et, rI_ne _ _ (by decide), sA_at]; exact ag⟩, ?_, ?_, ?_, ?_, ?_, hZ⟩
        · rw [rI_ne _ _ (by decide), sA_ne _ _ (by decide), rI_ne _ _ (by decide), tk_5]; exact w2
        · rw [g41 13 (by decide)]; exact hW.2.2.1
        · refine RlS_c hS ?_ ?_ ?_ ?_ ?_ ?_ ?_ ?_
          · rw [g 6 (by decide) (by decide) (by decide) (by decide) (by decide) (by decide) (by decide)]
          · rw [g 6 (by decide) (by decide) (by decide) (by decide) (by decide) (by decide) (by decide)]
          · exact g41 _ (by decide)
          · exact g41 _ (by decide)
          all_goals exact g _ (by decide) (by decide) (by decide) (by decide) (by decide) (by decide) (by decide)
        · refine RlT_c hT ?_ ?_ ?_ ?_
          · rw [g 1 (by decide) (by decide) (by decide) (by decide) (by decide) (by decide) (by decide)]
          · exact g41 _ (by decide)
          all_goals exact g _ (by decide) (by decide) (by decide) (by decide) (by decide) (by decide) (by decide)
        · refine RlG_c hG ?_ ?_ ?_ ?_ ?_ ?_ ?_ ?_ ?_ ?_
          · rw [g 36 (by decide) (by decide) (by decide) (by decide) (by decide) (by decide) (by decide)]
          · exact g41 _ (by decide)
          all_goals exact g _ (by decide) (by decide) (by decide) (by decide) (by decide) (by decide) (by decide)
        · refine RlK_c hK ?_ ?_ ?_ ?_ ?_ ?_ ?_ ?_ ?_ ?_ ?_
          all_goals exact g _ (by decide) (by decide) (by decide) (by decide) (by decide) (by decide) (by decide)
        · refine ⟨0, f, y, by omega, hf, hy, ?_, ?_, ?_, ?_, ⟨fun _ => _, rfl, fun j hj => absurd hj (by omega)⟩⟩
          · rw [rI_ne _ _ (by decide), sA_ne _ _ (by decide), rI_at]; rfl
          · rw [rI_ne _ _ (by decide), sA_ne _ _ (by decide), rI_k _ _ (by decide), tk_O (by decide) (by decide) (by decide) (by decide)]; exact d4
          · rw [rI_at]; rfl
          · rw [g41 6 (by decide)]; exact m6
  · refine St_ro H0 (r := -1) ?_ ?_
    · unfold f_X6_again
      rw [eS, bnd_s, ifb, if_neg q]
    · unfold f_X7_again
      rw [p_in32 _ _ _ 0 1 rfl rfl, bnd_s, ifb, if_neg q]
