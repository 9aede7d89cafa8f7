theorem bfalse {b : Bool} (h : ¬ b = true) : b = false := by cases b <;> simp_all
theorem st_part {h : Hp} (H : Rel h) (x y : Int32) : St (f_X6_part 0 x y) (f_X7_part 41 x y) h := by
  have H0 := H
  obtain ⟨C, hW, ⟨R, E, rt, en, Z, Zm⟩, -⟩ := H
  have hR := Z.1
  have hE := Z.2.1
  have e1 : ∀ z : Int32, f_X6_part 0 z y h = if z = 0 then (if inI y 0 (R - 1) = true then some (h.1 7 y.toNatClampNeg, h) else some (-1, h)) else if z = 1 then (if inI y 0 (E - 1) = true then some (h.1 8 y.toNatClampNeg, h) else some (-1, h)) else some (-2, h) := by
    intro z
    unfold f_X6_part g_X6_part_12
    rw [R0_1, R6_0, R6_1, N_7, N_8, p_hasRoot Z, p_hasEnding Z, bnd_s, bnd_s, ifb, ifb]
    by_cases q0 : z = 0
    · rw [if_pos q0, if_pos q0, if_pos q0]
      by_cases q : inI y 0 (R - 1) = true
      · obtain ⟨i, hi, rfl⟩ := inI_of (by omega) q
        rw [if_pos q, if_pos q, if_pos (okI_n (by omega) (by decide))]
      · rw [if_neg q, if_neg q]
    · rw [if_neg q0, if_neg q0, if_neg q0]
      by_cases q1 : z = 1
      · rw [if_pos q1, if_pos q1]
        by_cases q : inI y 0 (E - 1) = true
        · obtain ⟨i, hi, rfl⟩ := inI_of (by omega) q
          rw [if_pos q, if_pos q, if_pos (okI_n (by omega) (by decide))]
        · rw [if_neg q, if_neg q]
      · rw [if_neg q1, if_neg q1]
  have e2 : f_X7_part 41 x y h = f_X6_part 0 x y h := by
    rw [e1 x]
    unfold f_X7_part
    rw [p_isRoot Zm, p_isEnding Zm, bnd_s, bnd_s, ifb, ifb, R41_9, R41_10, N_48, N_49]
    by_cases q0 : x = 0
    · rw [if_pos q0, if_pos q0]
      by_cases q : inI y 0 (R - 1) = true
      · obtain ⟨i, hi, rfl⟩ := inI_of (by omega) q
        rw [if_pos q, if_pos q, if_pos (okI_n (by omega) (by decide)), nI_clamp (by omega), (Z.2.2.2.2.1 i hi).1, (Zm.2.2.2.2.1 i hi).1]
      · rw [if_neg q, if_neg q]
    · rw [if_neg q0, if_neg q0]
      by_cases q1 : x = 1
      · rw [if_pos q1, if_pos q1]
        by_cases q : inI y 0 (E - 1) = true
        · obtain ⟨i, hi, rfl⟩ := inI_of (by omega) q
          rw [if_pos q, if_pos q, if_pos (okI_n (by omega) (by decide)), nI_clamp (by omega), (Z.2.2.2.2.2 i hi).1, (Zm.2.2.2.2.2 i hi).1]
        · rw [if_neg q, if_neg q]
      · rw [if_neg q1, if_neg q1]
  have e3 : ∃ r, f_X6_part 0 x y h = some (r, h) := by
    rw [e1 x]
    repeat' split
    all_goals exact ⟨_, rfl⟩
  obtain ⟨r, hr⟩ := e3
  exact St_ro H0 hr (e2.trans hr)
theorem st_sign {h : Hp} (H : Rel h) (x y : Int32) : St (f_X6_sign 0 x y) (f_X7_sign 41 x y) h := by
  have H0 := H
  obtain ⟨C, hW, -⟩ := H
  have hC := hW.1
  have K := hW.wk
  have M := hW.mk
  by_cases q : inI x 0 (C - 1) = true
  · obtain ⟨c, hc, rfl⟩ := inI_of (by omega) q
    by_cases q2 : inI y 0 3 = true
    · obtain ⟨k, hk, rfl⟩ := inI_0 (n := 3) (by decide) q2
      refine St_ro (r := SH h 9 c k) H0 ?_ ?_
      · unfold f_X6_sign f_X6_isSignPlace
        rw [R0_2, p_hasChange K, bnd_s, ifb, if_pos q, if_neg (by rw [L0, nI_ltI (by omega) (by omega)]; omega), L4, if_neg (by rw [nI_leI (by omega) (by omega)]; omega), bnd_s, if_neg (by decide), p_signOf K hc (by omega), bnd_s]
      · unfold f_X7_sign
        rw [p_isChange M, bnd_s, ifb, if_pos q, p_in32 _ _ _ 0 3 rfl rfl, bnd_s, ifb, if_pos q2, R41_2, N_43, L4, pk_mul, nI_add, nI_add, if_pos (okI_n (by omega) (by decide)), nI_clamp (by omega), M.2.2.2.2.1 c k hc (by omega)]
    · refine St_ro (r := -2) H0 ?_ ?_
      · unfold f_X6_sign
        have e1 : f_X6_isSignPlace y h = some (b01 (inI y 0 3), h) := has2 y (n := 4) (by decide) h
        rw [R0_2, p_hasChange K, bnd_s, ifb, if_pos q, e1, bnd_s, ifb, if_neg q2]
      · unfold f_X7_sign
        rw [p_isChange M, bnd_s, ifb, if_pos q, p_in32 _ _ _ 0 3 rfl rfl, bnd_s, ifb, if_neg q2]
  · refine St_ro (r := -1) H0 ?_ ?_
    · unfold f_X6_sign
      rw [R0_2, p_hasChange K, bnd_s, ifb, if_neg q]
    · unfold f_X7_sign
      rw [p_isChange M, bnd_s, ifb, if_neg q]
theorem st_order {h : Hp} (H : Rel h) (x : Int32) : St (f_X6_order 0 x) (f_X7_order 41 x) h := by
  have H0 := H
  obtain ⟨C, hW, -⟩ := H
  have hC := hW.1
  have K := hW.wk
  have M := hW.mk
  by_cases q : inI x 0 (C - 1) = true
  · obtain ⟨c, hc, rfl⟩ := inI_of (by omega) q
    refine St_ro (r := nI (lnH h 9 c)) H0 ?_ ?_
    · unfold f_X6_order
      rw [R0_2, p_hasChange K, bnd_s, ifb, if_pos q, R9_2, N_11, if_pos (okI_n (by omega) (by decide)), nI_clamp (by omega), (K.2.2.2.1 c hc).1]
    · unfold f_X7_order
      rw [p_isChange M, bnd_s, ifb, if_pos q, R41_2, N_43, if_pos (okI_n (by omega) (by decide)), nI_clamp (by omega), (M.2.2.2.1 c hc).1]
  · refine St_ro (r := -1) H0 ?_ ?_
    · unfold f_X6_order
      rw [R0_2, p_hasChange K, bnd_s, ifb, if_neg q]
    · unfold f_X7_order
      rw [p_isChange M, bnd_s, ifb, if_neg q]
theorem st_made {h : Hp} (H : Rel h) (x y : Int32) : St (f_X6_made 0 x y) (f_X7_made 41 x y) h := by
  have H0 := H
  obtain ⟨C, hW, ⟨R, E, rt, en, Z, Zm⟩, -⟩ := H
  have hR := Z.1
  have hE := Z.2.1
  have K := hW.wk
  have M := hW.mk
  by_cases q : inI x 0 (R - 1) = true
  · by_cases q2 : inI y 0 (E - 1) = true
    · obtain ⟨i, hi, rfl⟩ := inI_of (by omega) q
      obtain ⟨e, he, rfl⟩ := inI_of (by omega) q2
      refine St_ro H0 (r := nI (wlk (lnH h 9) (SH h 9) (TH h 9) 15 C (jn (rt i) (en e)))) ?_ ?_
      · unfold f_X6_made
        rw [R0_1, R0_2, p_hasPair Z, bnd_s, ifb, q, q2, if_pos (show (true && true) = true from rfl), p_makeOf K Z hi he, bnd_s]
      · unfold f_X7_made
        rw [p_isRoot Zm, bnd_s, ifb, if_pos q, p_isEnding Zm, bnd_s, ifb, if_pos q2, R41_2, L15, p_madeBy M Zm hi he (by decide), bnd_s]
    · refine St_ro H0 (r := -1) ?_ ?_
      · unfold f_X6_made
        rw [R0_1, p_hasPair Z, bnd_s, ifb, q, bfalse q2, if_neg (by decide)]
      · unfold f_X7_made
        rw [p_isRoot Zm, bnd_s, ifb, if_pos q, p_isEnding Zm, bnd_s, ifb, if_neg q2]
  · refine St_ro H0 (r := -1) ?_ ?_
    · unfold f_X6_made
      rw [R0_1, p_hasPair Z, bnd_s, ifb, bfalse q, if_neg (by simp)]
    · unfold f_X7_made
      rw [p_isRoot Zm, bnd_s, ifb, if_neg q]
theorem st_form {h : Hp} (H : Rel h) (x y : Int32) : St (f_X6_form 0 x y) (f_X7_form 41 x y) h := by
  have H0 := H
  obtain ⟨C, hW, ⟨R, E, rt, en, Z, Zm⟩, -⟩ := H
  have hR := Z.1
  have hE := Z.2.1
  by_cases q : inI x 0 (R - 1) = true
  · by_cases q2 : inI y 0 (E - 1) = true
    · obtain ⟨i, hi, rfl⟩ := inI_of (by omega) q
      obtain ⟨e, he, rfl⟩ := inI_of (by omega) q2
      refine St_ro H0 (r := h.1 12 (3 * i + e)) ?_ ?_
      · unfold f_X6_form
        rw [R0_1, R0_2, p_hasPair Z, bnd_s, ifb, q, q2, if_pos (show (true && true) = true from rfl), p_formOf (fm := h.1 12) (Or.inl rfl) (fun _ _ => rfl) (by omega) (by omega), bnd_s]
      · unfold f_X7_form
        rw [p_isRoot Zm, bnd_s, ifb, if_pos q, p_isEnding Zm, bnd_s, ifb, if_pos q2, R41_2, N_43, L20, L3, pk_mul, nI_add, nI_add, if_pos (okI_n (by omega) (by decide)), nI_clamp (by omega), Nat.add_assoc, hW.fm _ (by omega)]
    · refine St_ro H0 (r := -1) ?_ ?_
      · unfold f_X6_form
        rw [R0_1, p_hasPair Z, bnd_s, ifb, q, bfalse q2, if_neg (by decide)]
      · unfold f_X7_form
        rw [p_isRoot Zm, bnd_s, ifb, if_pos q, p_isEnding Zm, bnd_s, ifb, if_neg q2]
  · refine St_ro H0 (r := -1) ?_ ?_
    · unfold f_X6_form
      rw [R0_1, p_hasPair Z, bnd_s, ifb, bfalse q, if_neg (by simp)]
    · unfold f_X7_form
      rw [p_isRoot Zm, bnd_s, ifb, if_neg q]
theorem st_step {h : Hp} (H : Rel h) (x y z : Int32) : St (f_X6_step 0 x y z) (f_X7_step 41 x y z) h := by
  have H0 := H
  obtain ⟨C, hW, ⟨R, E, rt, en, Z, Zm⟩, -⟩ := H
  have hR := Z.1
  have hE := Z.2.1
  have hC := hW.1
  have K := hW.wk
  have M := hW.mk
  have hc64 : (nI C).toInt64.toInt = (C : Int) := by rw [Int32.toInt_toInt64, nI_toInt (by omega)]
  by_cases q : inI x 0 (R - 1) = true
  · by_cases q2 : inI y 0 (E - 1) = true
    · obtain ⟨i, hi, rfl⟩ := inI_of (by omega) q
      obtain ⟨e, he, rfl⟩ := inI_of (by omega) q2
      by_cases q3 : inI z 0 C = true
      · obtain ⟨k, hk, rfl⟩ := inI_0 (by omega) q3
        refine St_ro H0 (r := nI (wlk (lnH h 9) (SH h 9) (TH h 9) 15 k (jn (rt i) (en e)))) ?_ ?_
        · unfold f_X6_step
          rw [R0_1, R0_2, p_hasPair Z, bnd_s, ifb, q, q2, if_pos (show (true && true) = true from rfl), if_neg (by rw [L0, nI_ltI (by omega) (by omega)]; omega), K.2.2.1, if_pos (by rw [nI_leI (by omega) (by omega)]; omega), p_joined Z hi he, bnd_s, p_walk K (Z.lt hi he) hk, bnd_s]
        · unfold f_X7_step
          rw [p_isRoot Zm, bnd_s, ifb, if_pos q, p_isEnding Zm, bnd_s, ifb, if_pos q2, M.2.2.1, p_in32 _ _ _ 0 C rfl hc64, bnd_s, ifb, if_pos q3, p_raw Zm hi he, bnd_s, R41_2, L15, p_behind M (Zm.lt hi he) (by decide) hk, bnd_s]
      · refine St_ro H0 (r := -2) ?_ ?_
        · unfold f_X6_step
          rw [R0_1, R0_2, p_hasPair Z, bnd_s, ifb, q, q2, if_pos (show (true && true) = true from rfl), K.2.2.1]
          have q4 : ¬ (0 ≤ z.toInt ∧ z.toInt ≤ (C : Int)) := fun w => q3 (decide_eq_true w)
          have e1 : z < 0 ↔ z.toInt < 0 := Int32.lt_iff_toInt_lt
          have e2 : z ≤ nI C ↔ z.toInt ≤ (C : Int) := by rw [Int32.le_iff_toInt_le, nI_toInt (by omega)]
          by_cases q5 : z.toInt < 0
          · rw [if_pos (e1.mpr q5)]
          · rw [if_neg (fun w => q5 (e1.mp w)), if_neg (fun w => q4 ⟨by omega, e2.mp w⟩)]
        · unfold f_X7_step
          rw [p_isRoot Zm, bnd_s, ifb, if_pos q, p_isEnding Zm, bnd_s, ifb, if_pos q2, M.2.2.1, p_in32 _ _ _ 0 C rfl hc64, bnd_s, ifb, if_neg q3]
    · refine St_ro H0 (r := -1) ?_ ?_
      · unfold f_X6_step
        rw [R0_1, p_hasPair Z, bnd_s, ifb, q, bfalse q2, if_neg (by decide)]
      · unfold f_X7_step
        rw [p_isRoot Zm, bnd_s, ifb, if_pos q, p_isEnding Zm, bnd_s, ifb, if_neg q2]
  · refine St_ro H0 (r := -1) ?_ ?_
    · unfold f_X6_step
      rw [R0_1, p_hasPair Z, bnd_s, ifb, bfalse q, if_neg (by simp)]
    · unfold f_X7_step
      rw [p_isRoot Zm, bnd_s, ifb, if_neg q]
theorem st_cross {h : Hp} (H : Rel h) (x y : Int32) : St (f_X6_cross 0 x y) (f_X7_cross 41 x y) h := by
  have H0 := H
  obtain ⟨C, hW, ⟨R, E, rt, en, Z, Zm⟩, -⟩ := H
  have hC := hW.1
  have K := hW.wk
  have M := hW.mk
  by_cases q : inI x 0 (C - 1) = true
  · by_cases q2 : inI y 0 (C - 1) = true
    · obtain ⟨i, hi, rfl⟩ := inI_of (by omega) q
      obtain ⟨e, he, rfl⟩ := inI_of (by omega) q2
      have fin : ∀ b : Bool, (if b01 b = 0 then some ((0 : Int32), h) else some (1, h)) = some (b01 b, h) := by intro b; cases b <;> rfl
      refine St_ro H0 (r := b01 (crA E rt en (TH h 9) (SH h 9) i e (R * E))) ?_ ?_
      · unfold f_X6_cross
        rw [R0_2, p_hasChange K, bnd_s, ifb, if_pos q, p_hasChange K, bnd_s, ifb, if_pos q2, p_cro K Z hi he, bnd_s, fin]
      · unfold f_X7_cross
        rw [p_isChange M, bnd_s, ifb, if_pos q, p_isChange M, bnd_s, ifb, if_pos q2, R41_2, q_cro M Zm hi he, bnd_s, fin]
    · refine St_ro H0 (r := -1) ?_ ?_
      · unfold f_X6_cross
        rw [R0_2, p_hasChange K, bnd_s, ifb, if_pos q, p_hasChange K, bnd_s, ifb, if_neg q2]
      · unfold f_X7_cross
        rw [p_isChange M, bnd_s, ifb, if_pos q, p_isChange M, bnd_s, ifb, if_neg q2]
  · refine St_ro H0 (r := -1) ?_ ?_
    · unfold f_X6_cross
      rw [R0_2, p_hasChange K, bnd_s, ifb, if_neg q]
    · unfold f_X7_cross
      rw [p_isChange M, bnd_s, ifb, if_neg q]
theorem p_all {h : Hp} {a C : Nat} {ln T : Nat → Nat} {S : Nat → Nat → Int32} (K : WK h a C ln S T) : f_X4_allChanges a h = some (nI (2 ^ C - 1), h) := by
  unfold f_X4_allChanges
  rw [K.2.2.1]
  have hC := K.2.1
  have : ∀ c, c ≤ 4 → (1 : Int32) <<< (nI c &&& 31) - 1 = nI (2 ^ c - 1) := by decide +kernel
  rw [this C hC]
theorem pw16 {C : Nat} (hC : C ≤ 4) : 2 ^ C - 1 < 16 := by
  have : 2 ^ C ≤ 2 ^ 4 := Nat.pow_le_pow_right (by decide) hC
  omega
theorem wlk_all {ln T : Nat → Nat} {S : Nat → Nat → Int32} {C : Nat} (hC : C ≤ 4) (hl : ∀ j, j < C → ln j < C) : ∀ p w, p ≤ C → wlk ln S T (2 ^ C - 1) p w = wlk ln S T 15 p w
  | 0, w, _ => rfl
  | p + 1, w, hp => by
    have hb : ∀ c, c ≤ 4 → ∀ j, j < c → (2 ^ c - 1).testBit j = true := by decide
    have h1 := hl p (by omega)
    rw [wlk_s, wlk_s, hb C hC _ h1, bit15 _ (by omega), wlk_all hC hl p w (by omega)]
theorem wdK_all {h : Hp} {a C E : Nat} {ln rt en T : Nat → Nat} {S : Nat → Nat → Int32} (K : WK h a C ln S T) : wdK C E ln rt en T S (2 ^ C - 1) = wdK C E ln rt en T S 15 := funext fun k => by
  unfold wdK
  exact wlk_all K.2.1 (fun j hj => (K.2.2.2.1 j hj).2) C _ (Nat.le_refl _)
theorem st_about {h : Hp} (H : Rel h) (x : Int32) : St (f_X6_about 0 x) (f_X7_about 41 x) h := by
  have H0 := H
  obtain ⟨C, hW, ⟨R, E, rt, en, Z, Zm⟩, ⟨n, hn, t1, t2, -⟩, ⟨g, hg, g1, g2, -⟩, -, ⟨d, f, y, hd, -, -, d1, -, d2, -⟩, -⟩ := H
  have K := hW.wk
  have M := hW.mk
  unfold St
  unfold f_X6_about f_X7_about
  rw [R0_0, R0_1, R0_2, R0_6, R0_7, R41_2]
  by_cases q0 : x = 0
  · simp only [if_pos q0]; exact ⟨_, h, h, rfl, by rw [Z.2.2.1, Zm.2.2.1], H0⟩
  simp only [if_neg q0]
  by_cases q1 : x = 1
  · simp only [if_pos q1]; exact ⟨_, h, h, rfl, by rw [Z.2.2.2.1, Zm.2.2.2.1], H0⟩
  simp only [if_neg q1]
  by_cases q2 : x = 2
  · simp only [if_pos q2]; exact ⟨_, h, h, rfl, by rw [K.2.2.1, M.2.2.1], H0⟩
  simp only [if_neg q2]
  by_cases q3 : x = 3
  · simp only [if_pos q3]
    obtain ⟨u, hu⟩ := p_unl (set := 2 ^ C - 1) K Z (pw16 hW.1)
    rw [wdK_all K] at hu
    have s1 : Sc h (sA h 13 u) := Sc_A h u (by decide)
    obtain ⟨v, hv⟩ := q_unl (set := 15) (M.sA u (show (43 : Nat) ≠ 13 by decide) (by decide)) (Zm.sA u (show (41 : Nat) ≠ 13 by decide) (by decide) (by decide)) (by decide)
    have hu : f_X4_unlikeWords 9 (nI (2 ^ C - 1)) h = some (nI (acN (wdK C E (lnH h 9) rt en (TH h 9) (SH h 9) 15) (R * E)).length, sA h 13 u) := hu
    refine ⟨_, sA h 13 u, sA (sA h 13 u) 57 v, by rw [p_all K, bnd_s, hu, bnd_s], by rw [L15, hv, bnd_s], Rel_Sc H0 (Sc_tr s1 (Sc_A _ v (by decide)))⟩
  simp only [if_neg q3]
  by_cases q4 : x = 4
  · simp only [if_pos q4]; exact ⟨_, h, h, by rw [p_act K Z, bnd_s], by rw [q_act M Zm, bnd_s], H0⟩
  simp only [if_neg q4]
  by_cases q5 : x = 5
  · simp only [if_pos q5]; exact ⟨_, h, h, by rw [p_exc (fm := h.1 12) K Z (fun _ _ => rfl), bnd_s], by rw [q_exc M Zm hW.fm, bnd_s], H0⟩
  simp only [if_neg q5]
  by_cases q6 : x = 6
  · simp only [if_pos q6]; exact ⟨_, h, h, by rw [p_fc (fm := h.1 12) (Or.inl rfl) (fun _ _ => rfl), bnd_s], by rw [q_fc hW.fm, bnd_s], H0⟩
  simp only [if_neg q6]
  by_cases q7 : x = 7
  · simp only [if_pos q7]; exact ⟨_, h, h, rfl, by rw [d1, d2], H0⟩
  simp only [if_neg q7]
  by_cases q8 : x = 8
  · simp only [if_pos q8]; exact ⟨_, h, h, rfl, by rw [g1, g2], H0⟩
  simp only [if_neg q8]
  by_cases q9 : x = 9
  · simp only [if_pos q9]; exact ⟨_, h, h, rfl, by rw [t1, t2], H0⟩
  simp only [if_neg q9]
  exact ⟨_, h, h, rfl, rfl, H0⟩
