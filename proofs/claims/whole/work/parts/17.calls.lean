theorem sL_1 (h : Hp) (i : Nat) (v : Int64) : (sL h i v).1 = h.1 := rfl
theorem sL_at (h : Hp) (i : Nat) (v : Int64) : (sL h i v).2 i = v := by simp [sL]
theorem sL_ne (h : Hp) {i j : Nat} (v : Int64) (q : j ≠ i) : (sL h i v).2 j = h.2 j := by simp [sL, q]
theorem RlW_c {h h' : Hp} {C : Nat} (H : RlW h C) (a9 : h'.1 9 5 = h.1 9 5 := by simp [rI_ne, rI_k, sA_ne, sL_1]) (b13 : h'.1 41 13 = h.1 41 13 := by simp [rI_ne, rI_k, sA_ne, sL_1]) (a10 : h'.1 10 = h.1 10 := by simp [rI_ne, rI_k, sA_ne, sL_1]) (a11 : h'.1 11 = h.1 11 := by simp [rI_ne, rI_k, sA_ne, sL_1]) (a12 : h'.1 12 = h.1 12 := by simp [rI_ne, rI_k, sA_ne, sL_1]) (a43 : h'.1 43 = h.1 43 := by simp [rI_ne, rI_k, sA_ne, sL_1]) : RlW h' C := by
  unfold RlW tr
  rw [a9, b13, a10, a11, a12, a43]
  exact H
theorem RlS_c {h h' : Hp} (H : RlS h) (a62 : h'.1 6 2 = h.1 6 2 := by simp [rI_ne, rI_k, sA_ne, sL_1]) (a63 : h'.1 6 3 = h.1 6 3 := by simp [rI_ne, rI_k, sA_ne, sL_1]) (b11 : h'.1 41 11 = h.1 41 11 := by simp [rI_ne, rI_k, sA_ne, sL_1]) (b12 : h'.1 41 12 = h.1 41 12 := by simp [rI_ne, rI_k, sA_ne, sL_1]) (a7 : h'.1 7 = h.1 7 := by simp [rI_ne, rI_k, sA_ne, sL_1]) (a8 : h'.1 8 = h.1 8 := by simp [rI_ne, rI_k, sA_ne, sL_1]) (a48 : h'.1 48 = h.1 48 := by simp [rI_ne, rI_k, sA_ne, sL_1]) (a49 : h'.1 49 = h.1 49 := by simp [rI_ne, rI_k, sA_ne, sL_1]) : RlS h' := by
  unfold RlS SK NK
  rw [a62, a63, b11, b12, a7, a8, a48, a49]
  exact H
theorem RlT_c {h h' : Hp} (H : RlT h) (a1 : h'.1 1 1 = h.1 1 1 := by simp [rI_ne, rI_k, sA_ne, sL_1]) (b1 : h'.1 41 1 = h.1 41 1 := by simp [rI_ne, rI_k, sA_ne, sL_1]) (a2 : h'.1 2 = h.1 2 := by simp [rI_ne, rI_k, sA_ne, sL_1]) (a42 : h'.1 42 = h.1 42 := by simp [rI_ne, rI_k, sA_ne, sL_1]) : RlT h' := by
  unfold RlT
  rw [a1, b1, a2, a42]
  exact H
theorem RlG_c {h h' : Hp} (H : RlG h) (a36 : h'.1 36 4 = h.1 36 4 := by simp [rI_ne, rI_k, sA_ne, sL_1]) (b26 : h'.1 41 26 = h.1 41 26 := by simp [rI_ne, rI_k, sA_ne, sL_1]) (a37 : h'.1 37 = h.1 37 := by simp [rI_ne, rI_k, sA_ne, sL_1]) (a38 : h'.1 38 = h.1 38 := by simp [rI_ne, rI_k, sA_ne, sL_1]) (a39 : h'.1 39 = h.1 39 := by simp [rI_ne, rI_k, sA_ne, sL_1]) (a40 : h'.1 40 = h.1 40 := by simp [rI_ne, rI_k, sA_ne, sL_1]) (a53 : h'.1 53 = h.1 53 := by simp [rI_ne, rI_k, sA_ne, sL_1]) (a54 : h'.1 54 = h.1 54 := by simp [rI_ne, rI_k, sA_ne, sL_1]) (a55 : h'.1 55 = h.1 55 := by simp [rI_ne, rI_k, sA_ne, sL_1]) (a56 : h'.1 56 = h.1 56 := by simp [rI_ne, rI_k, sA_ne, sL_1]) : RlG h' := by
  unfold RlG
  rw [a36, b26, a37, a38, a39, a40, a53, a54, a55, a56]
  exact H
theorem RlK_c {h h' : Hp} {C : Nat} (H : RlK h C) (a30 : h'.1 30 = h.1 30 := by simp [rI_ne, rI_k, sA_ne, sL_1]) (a47 : h'.1 47 = h.1 47 := by simp [rI_ne, rI_k, sA_ne, sL_1]) (a46 : h'.1 46 = h.1 46 := by simp [rI_ne, rI_k, sA_ne, sL_1]) (a19 : h'.1 19 = h.1 19 := by simp [rI_ne, rI_k, sA_ne, sL_1]) (a20 : h'.1 20 = h.1 20 := by simp [rI_ne, rI_k, sA_ne, sL_1]) (a21 : h'.1 21 = h.1 21 := by simp [rI_ne, rI_k, sA_ne, sL_1]) (a22 : h'.1 22 = h.1 22 := by simp [rI_ne, rI_k, sA_ne, sL_1]) (a24 : h'.1 24 = h.1 24 := by simp [rI_ne, rI_k, sA_ne, sL_1]) (a25 : h'.1 25 = h.1 25 := by simp [rI_ne, rI_k, sA_ne, sL_1]) (a26 : h'.1 26 = h.1 26 := by simp [rI_ne, rI_k, sA_ne, sL_1]) (a27 : h'.1 27 = h.1 27 := by simp [rI_ne, rI_k, sA_ne, sL_1]) : RlK h' C := by
  intro j hj
  have := H j hj
  rcases (show j = 0 ∨ j = 1 by omega) with rfl | rfl
  · unfold tr at this ⊢
    simp only [Nat.mul_zero, Nat.add_zero, Nat.reduceAdd] at this ⊢
    rw [a30, a47, a46, a19, a20, a21, a22]
    exact this
  · unfold tr at this ⊢
    simp only [Nat.mul_one, Nat.reduceAdd] at this ⊢
    rw [a30, a47, a46, a24, a25, a26, a27]
    exact this
theorem RlD_c {h h' : Hp} {C : Nat} (H : RlD h C) (a314 : h'.1 31 4 = h.1 31 4 := by simp [rI_ne, rI_k, sA_ne, sL_1]) (a315 : h'.1 31 5 = h.1 31 5 := by simp [rI_ne, rI_k, sA_ne, sL_1]) (b5 : h'.1 41 5 = h.1 41 5 := by simp [rI_ne, rI_k, sA_ne, sL_1]) (b6 : h'.1 41 6 = h.1 41 6 := by simp [rI_ne, rI_k, sA_ne, sL_1]) (a32 : h'.1 32 = h.1 32 := by simp [rI_ne, rI_k, sA_ne, sL_1]) (a33 : h'.1 33 = h.1 33 := by simp [rI_ne, rI_k, sA_ne, sL_1]) (a34 : h'.1 34 = h.1 34 := by simp [rI_ne, rI_k, sA_ne, sL_1]) (a35 : h'.1 35 = h.1 35 := by simp [rI_ne, rI_k, sA_ne, sL_1]) (a45 : h'.1 45 = h.1 45 := by simp [rI_ne, rI_k, sA_ne, sL_1]) (a10 : h'.1 10 = h.1 10 := by simp [rI_ne, rI_k, sA_ne, sL_1]) (a11 : h'.1 11 = h.1 11 := by simp [rI_ne, rI_k, sA_ne, sL_1]) (a12 : h'.1 12 = h.1 12 := by simp [rI_ne, rI_k, sA_ne, sL_1]) : RlD h' C := by
  unfold RlD tr
  rw [a314, a315, b5, b6, a32, a33, a34, a35, a45, a10, a11, a12]
  exact H
theorem st_write {h : Hp} (H : Rel h) (x : Int32) : St (f_X6_write 0 x) (f_X7_write 41 x) h := by
  have H0 := H
  obtain ⟨C, hW, hS, ⟨n, hn, t1, t2, tt⟩, hG, hK, hD, hZ⟩ := H
  have e1 : x < 0 ↔ x.toInt < 0 := Int32.lt_iff_toInt_lt
  have e2 : x ≤ 255 ↔ x.toInt ≤ 255 := by rw [Int32.le_iff_toInt_le]; rfl
  by_cases q : inI x 0 255 = true
  · have q3 := of_decide_eq_true q
    have c1 : ¬ x < 0 := fun z => by have := e1.mp z; omega
    have c2 : x ≤ 255 := e2.mpr q3.2
    by_cases q60 : n = 60
    · refine St_ro H0 (r := -4) ?_ ?_
      · unfold f_X6_write f_X3_append
        rw [R0_0, if_neg c1, if_pos c2, t1, L60, if_neg (by rw [nI_ltI (by omega) (by omega)]; omega), bnd_s, if_pos rfl]
      · unfold f_X7_write
        rw [p_in32 _ _ _ 0 255 rfl rfl, bnd_s, ifb, if_pos q, t2, if_pos (by rw [q60]; rfl)]
    · refine ⟨nI (n + 1), sI (sI h 2 n x) 1 1 (nI (n + 1)), sI (sI (sI (sI h 2 n x) 1 1 (nI (n + 1))) 42 n x) 41 1 (nI (n + 1)), ?_, ?_, ?_⟩
      · unfold f_X6_write f_X3_append
        rw [R0_0, R1_0, N_2, if_neg c1, if_pos c2, t1, L60, if_pos (by rw [nI_ltI (by omega) (by omega)]; omega), if_pos (okI_n (by omega) (by decide)), nI_clamp (by omega), rI_ne h x (show (1 : Nat) ≠ 2 by decide), t1, L1, nI_add, bnd_s, if_neg (by decide), rI_at]
      · unfold f_X7_write
        have t3 : (sI (sI h 2 n x) 1 1 (nI (n + 1))).1 41 1 = nI n := by simp [rI_ne, t2]
        rw [p_in32 _ _ _ 0 255 rfl rfl, bnd_s, ifb, if_pos q, t3, L60, if_neg (by rw [nI_eq (by omega) (by omega)]; exact q60), R41_0, N_42, if_pos (okI_n (by omega) (by decide)), nI_clamp (by omega), rI_at, rI_ne _ x (show (41 : Nat) ≠ 42 by decide), t3, L1, nI_add]
      · refine ⟨C, RlW_c hW, RlS_c hS, ⟨n + 1, by omega, ?_, rI_at _ _ _ _, fun j hj => ?_⟩, RlG_c hG, RlK_c hK, RlD_c hD, hZ⟩
        · simp [rI_ne, rI_at]
        · by_cases qj : j = n
          · subst qj; simp [rI_ne, rI_at]
          · rw [rI_ne _ _ (by decide), rI_ne _ _ (by decide), rI_ne _ _ (by decide), rI_k _ _ qj, rI_ne _ _ (by decide), rI_k _ _ qj, rI_ne _ _ (by decide), rI_ne _ _ (by decide)]
            exact tt j (by omega)
  · have q3 : ¬ ((0 : Int) ≤ x.toInt ∧ x.toInt ≤ 255) := fun z => q (decide_eq_true z)
    refine St_ro H0 (r := -2) ?_ ?_
    · unfold f_X6_write
      by_cases q4 : x.toInt < 0
      · rw [if_pos (e1.mpr q4)]
      · rw [if_neg (fun z => q4 (e1.mp z)), if_neg (fun z => q3 ⟨by omega, e2.mp z⟩)]
    · unfold f_X7_write
      rw [p_in32 _ _ _ 0 255 rfl rfl, bnd_s, ifb, if_neg q]
theorem st_wipe {h : Hp} (H : Rel h) : St (f_X6_wipe 0) (f_X7_wipe 41) h := by
  obtain ⟨C, hW, hS, ⟨n, hn, t1, t2, tt⟩, hG, hK, hD, hZ⟩ := H
  refine ⟨nI n, sI h 1 1 0, sI (sI h 1 1 0) 41 1 0, ?_, ?_, ?_⟩
  · unfold f_X6_wipe; rw [R0_0, t1]
  · unfold f_X7_wipe; rw [rI_ne _ _ (by decide), t2]
  · exact ⟨C, RlW_c hW, RlS_c hS, ⟨0, by omega, by simp [rI_ne, rI_at]; rfl, rI_at _ _ _ _, fun j hj => absurd hj (by omega)⟩, RlG_c hG, RlK_c hK, RlD_c hD, hZ⟩
theorem st_unsee {h : Hp} (H : Rel h) : St (f_X6_unsee 0) (f_X7_unsee 41) h := by
  obtain ⟨C, hW, hS, hT, ⟨n, hn, g1, g2, -⟩, hK, hD, hZ⟩ := H
  refine ⟨nI n, sI h 36 4 0, sI (sI h 36 4 0) 41 26 0, ?_, ?_, ?_⟩
  · unfold f_X6_unsee; rw [R0_7, g1]
  · unfold f_X7_unsee; rw [rI_ne _ _ (by decide), g2]
  · exact ⟨C, RlW_c hW, RlS_c hS, RlT_c hT, ⟨0, by omega, by simp [rI_ne, rI_at]; rfl, rI_at _ _ _ _, fun j hj => absurd hj (by omega)⟩, RlK_c hK, RlD_c hD, hZ⟩
theorem st_seed {h : Hp} (H : Rel h) (v : Int64) : St (f_X6_seed 0 v) (f_X7_seed 41 v) h := by
  obtain ⟨C, hW, hS, hT, hG, hK, hD, hZ⟩ := H
  refine ⟨h.2 0, sL h 0 v, sL (sL h 0 v) 41 v, rfl, ?_, ?_⟩
  · unfold f_X7_seed; rw [sL_ne _ _ (by decide), hZ]
  · exact ⟨C, hW, hS, hT, hG, hK, hD, by rw [sL_at, sL_ne _ _ (by decide), sL_at]⟩
theorem st_see {h : Hp} (H : Rel h) (x p v w : Int32) : St (f_X6_see 0 x p v w) (f_X7_see 41 x p v w) h := by
  have H0 := H
  obtain ⟨C, hW, hS, hT, ⟨n, hn, g1, g2, gg⟩, hK, hD, hZ⟩ := H
  obtain ⟨R, E, rt, en, Z, Zm⟩ := id hS
  have e1 : p < 0 ↔ p.toInt < 0 := Int32.lt_iff_toInt_lt
  have e2 : 4 < p ↔ 4 < p.toInt := by rw [Int32.lt_iff_toInt_lt]; rfl
  have e3 : v < 1 ↔ v.toInt < 1 := by rw [Int32.lt_iff_toInt_lt]; rfl
  have e4 : 5 < v ↔ 5 < v.toInt := by rw [Int32.lt_iff_toInt_lt]; rfl
  have e5 : w < 0 ↔ w.toInt < 0 := Int32.lt_iff_toInt_lt
  have e6 : w ≤ 1 ↔ w.toInt ≤ 1 := by rw [Int32.le_iff_toInt_le]; rfl
  by_cases q : inI x 0 (E - 1) = true
  · by_cases qp : inI p 0 4 = true
    · by_cases qv : inI v 1 5 = true
      · by_cases qw : inI w 0 1 = true
        · have zp := of_decide_eq_true qp
          have zv := of_decide_eq_true qv
          have zw := of_decide_eq_true qw
          have w01 : w = 0 ∨ w = 1 := by
            obtain ⟨i, hi, rfl⟩ := inI_0 (n := 1) (by decide) qw
            rcases (show i = 0 ∨ i = 1 by omega) with rfl | rfl
            · exact Or.inl rfl
            · exact Or.inr rfl
          have eS : f_X6_see 0 x p v w h = g_X6_see_64 0 x p v w 36 x p v w h := by
            unfold f_X6_see
            rw [R0_1, R0_7, p_hasEnding Z, bnd_s, ifb, if_pos q, if_neg (fun z => by have := e1.mp z; omega), if_neg (fun z => by have := e2.mp z; omega), if_neg (fun z => by have := e3.mp z; omega), if_neg (fun z => by have := e4.mp z; omega), if_neg (fun z => by have := e5.mp z; omega), if_pos (e6.mpr zw.2)]
            rcases w01 with rfl | rfl
            · rw [if_neg (by decide)]
            · rw [if_pos rfl]
          have eN : vp_nar .boolean w = w := by rcases w01 with rfl | rfl <;> rfl
          by_cases q6 : n = 6
          · refine St_ro H0 (r := -4) ?_ ?_
            · rw [eS]
              unfold g_X6_see_64 f_X1_add
              rw [g1, L6, if_neg (by rw [nI_ltI (by omega) (by omega)]; omega), bnd_s, if_pos rfl]
            · unfold f_X7_see
              rw [p_isEnding Zm, bnd_s, ifb, if_pos q, p_in32 _ _ _ 0 4 rfl rfl, bnd_s, ifb, if_pos qp, p_in32 _ _ _ 1 5 rfl rfl, bnd_s, ifb, if_pos qv, p_in32 _ _ _ 0 1 rfl rfl, bnd_s, ifb, if_pos qw, g2, if_pos (by rw [q6]; rfl)]
          · refine ⟨nI (n + 1), sI (sI (sI (sI (sI h 37 n x) 38 n p) 39 n v) 40 n w) 36 4 (nI (n + 1)), sI (sI (sI (sI (sI (sI (sI (sI (sI (sI h 37 n x) 38 n p) 39 n v) 40 n w) 36 4 (nI (n + 1))) 53 n x) 54 n p) 55 n v) 56 n w) 41 26 (nI (n + 1)), ?_, ?_, ?_⟩
            · rw [eS]
              unfold g_X6_see_64 f_X1_add
              rw [R36_0, R36_1, R36_2, R36_3, R0_7, N_37, N_38, N_39, N_40]
              simp only [rI_ne h x (show (36 : Nat) ≠ 37 by decide), rI_ne _ p (show (36 : Nat) ≠ 38 by decide), rI_ne _ v (show (36 : Nat) ≠ 39 by decide), rI_ne _ _ (show (36 : Nat) ≠ 40 by decide), g1, eN]
              rw [L6, if_pos (by rw [nI_ltI (by omega) (by omega)]; omega)]
              simp only [if_pos (okI_n (show n < 6 by omega) (show 6 < 2 ^ 31 by decide)), nI_clamp (show n < 2 ^ 31 by omega)]
              rw [bnd_s, if_neg (by decide), rI_at, L1, nI_add]
            · unfold f_X7_see
              have Zm' : NK (sI (sI (sI (sI (sI h 37 n x) 38 n p) 39 n v) 40 n w) 36 4 (nI (n + 1))) R E rt en := by
                unfold NK
                simp only [rI_ne _ _ (show (41 : Nat) ≠ 36 by decide), rI_ne _ _ (show (41 : Nat) ≠ 37 by decide), rI_ne _ _ (show (41 : Nat) ≠ 38 by decide), rI_ne _ _ (show (41 : Nat) ≠ 39 by decide), rI_ne _ _ (show (41 : Nat) ≠ 40 by decide), rI_ne _ _ (show (48 : Nat) ≠ 36 by decide), rI_ne _ _ (show (48 : Nat) ≠ 37 by decide), rI_ne _ _ (show (48 : Nat) ≠ 38 by decide), rI_ne _ _ (show (48 : Nat) ≠ 39 by decide), rI_ne _ _ (show (48 : Nat) ≠ 40 by decide), rI_ne _ _ (show (49 : Nat) ≠ 36 by decide), rI_ne _ _ (show (49 : Nat) ≠ 37 by decide), rI_ne _ _ (show (49 : Nat) ≠ 38 by decide), rI_ne _ _ (show (49 : Nat) ≠ 39 by decide), rI_ne _ _ (show (49 : Nat) ≠ 40 by decide)]
                exact Zm
              have g3 : (sI (sI (sI (sI (sI h 37 n x) 38 n p) 39 n v) 40 n w) 36 4 (nI (n + 1))).1 41 26 = nI n := by simp [rI_ne, g2]
              rw [p_isEnding Zm', bnd_s, ifb, if_pos q, p_in32 _ _ _ 0 4 rfl rfl, bnd_s, ifb, if_pos qp, p_in32 _ _ _ 1 5 rfl rfl, bnd_s, ifb, if_pos qv, p_in32 _ _ _ 0 1 rfl rfl, bnd_s, ifb, if_pos qw, R41_22, R41_23, R41_24, R41_25, N_53, N_54, N_55, N_56]
              generalize sI (sI (sI (sI (sI h 37 n x) 38 n p) 39 n v) 40 n w) 36 4 (nI (n + 1)) = hh at g3 ⊢
              simp only [rI_ne _ _ (show (41 : Nat) ≠ 53 by decide), rI_ne _ _ (show (41 : Nat) ≠ 54 by decide), rI_ne _ _ (show (41 : Nat) ≠ 55 by decide), rI_ne _ _ (show (41 : Nat) ≠ 56 by decide), g3]
              rw [L6, if_neg (by rw [nI_eq (by omega) (by omega)]; exact q6)]
              simp only [if_pos (okI_n (show n < 6 by omega) (show 6 < 2 ^ 31 by decide)), nI_clamp (show n < 2 ^ 31 by omega), rI_at, L1, nI_add]
            · refine ⟨C, RlW_c hW, RlS_c hS, RlT_c hT, ⟨n + 1, by omega, by simp [rI_ne, rI_at], rI_at _ _ _ _, fun j hj => ?_⟩, RlK_c hK, RlD_c hD, hZ⟩
              by_cases qj : j = n
              · subst qj
                simp only [rI, Nat.reduceEqDiff, false_and, if_false, and_self, if_true]
                refine ⟨trivial, trivial, trivial, trivial, w01, ?_, ?_⟩
                · obtain ⟨i, hi, rfl⟩ := inI_0 (n := 4) (by decide) qp
                  exact ⟨i, by omega, rfl⟩
                · obtain ⟨i, hi, rfl⟩ := nI_of (x := v) (fun z => by have := e3; rw [Int32.lt_iff_toInt_lt] at z; have z2 : v.toInt < 0 := z; omega)
                  rw [nI_toInt hi] at zv
                  exact ⟨i, by omega, by omega, rfl⟩
              · simp only [rI, Nat.reduceEqDiff, false_and, if_false, and_false, qj]
                exact gg j (by omega)
        · have zw : ¬ ((0 : Int) ≤ w.toInt ∧ w.toInt ≤ 1) := fun z => qw (decide_eq_true z)
          have zp := of_decide_eq_true qp
          have zv := of_decide_eq_true qv
          refine St_ro H0 (r := -2) ?_ ?_
          · unfold f_X6_see
            rw [R0_1, p_hasEnding Z, bnd_s, ifb, if_pos q, if_neg (fun z => by have := e1.mp z; omega), if_neg (fun z => by have := e2.mp z; omega), if_neg (fun z => by have := e3.mp z; omega), if_neg (fun z => by have := e4.mp z; omega)]
            by_cases q5 : w.toInt < 0
            · rw [if_pos (e5.mpr q5)]
            · rw [if_neg (fun z => q5 (e5.mp z)), if_neg (fun z => zw ⟨by omega, e6.mp z⟩)]
          · unfold f_X7_see
            rw [p_isEnding Zm, bnd_s, ifb, if_pos q, p_in32 _ _ _ 0 4 rfl rfl, bnd_s, ifb, if_pos qp, p_in32 _ _ _ 1 5 rfl rfl, bnd_s, ifb, if_pos qv, p_in32 _ _ _ 0 1 rfl rfl, bnd_s, ifb, if_neg qw]
      · have zv : ¬ ((1 : Int) ≤ v.toInt ∧ v.toInt ≤ 5) := fun z => qv (decide_eq_true z)
        have zp := of_decide_eq_true qp
        refine St_ro H0 (r := -2) ?_ ?_
        · unfold f_X6_see
          rw [R0_1, p_hasEnding Z, bnd_s, ifb, if_pos q, if_neg (fun z => by have := e1.mp z; omega), if_neg (fun z => by have := e2.mp z; omega)]
          by_cases q5 : v.toInt < 1
          · rw [if_pos (e3.mpr q5)]
          · rw [if_neg (fun z => q5 (e3.mp z)), if_pos (e4.mpr (by omega))]
        · unfold f_X7_see
          rw [p_isEnding Zm, bnd_s, ifb, if_pos q, p_in32 _ _ _ 0 4 rfl rfl, bnd_s, ifb, if_pos qp, p_in32 _ _ _ 1 5 rfl rfl, bnd_s, ifb, if_neg qv]
    · have zp : ¬ ((0 : Int) ≤ p.toInt ∧ p.toInt ≤ 4) := fun z => qp (decide_eq_true z)
      refine St_ro H0 (r := -2) ?_ ?_
      · unfold f_X6_see
        rw [R0_1, p_hasEnding Z, bnd_s, ifb, if_pos q]
        by_cases q5 : p.toInt < 0
        · rw [if_pos (e1.mpr q5)]
        · rw [if_neg (fun z => q5 (e1.mp z)), if_pos (e2.mpr (by omega))]
      · unfold f_X7_see
        rw [p_isEnding Zm, bnd_s, ifb, if_pos q, p_in32 _ _ _ 0 4 rfl rfl, bnd_s, ifb, if_neg qp]
  · refine St_ro H0 (r := -1) ?_ ?_
    · unfold f_X6_see
      rw [R0_1, p_hasEnding Z, bnd_s, ifb, if_neg q]
    · unfold f_X7_see
      rw [p_isEnding Zm, bnd_s, ifb, if_neg q]
