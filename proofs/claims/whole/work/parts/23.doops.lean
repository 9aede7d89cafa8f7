theorem swap2 (L : Nat → Int32) (i k : Nat) : upd (upd (upd (upd L i (L k)) k (L i)) i (upd (upd L i (L k)) k (L i) k)) k (upd (upd L i (L k)) k (L i) i) = L := by
  funext j
  simp only [upd]
  by_cases q1 : j = k
  · subst q1
    by_cases q2 : i = j
    · subst q2; simp
    · simp [q2]
  · by_cases q2 : j = i
    · subst q2
      simp [q1]
    · simp [q1, q2]
theorem upd2 (f : Nat → Int32) (k : Nat) (v : Int32) : upd (upd f k v) k (f k) = f := by
  funext j
  by_cases q : j = k
  · subst q; rw [upd_at]
  · rw [upd_ne _ _ q, upd_ne _ _ q]
/-- both note a doing, and make the new rows -/
theorem do_both {h : Hp} {C : Nat} (hW : RlW h C) (hS : RlS h) (hT : RlT h) (hG : RlG h) (hK : RlK h C) (hD : RlD h C) (hZ : h.2 0 = h.2 41) {k o t : Nat} {b : Int32} {hc : Hp} (hk : okD C k o t)
    (c2 : hc.2 = h.2) (cO : ∀ i, i ≠ 10 → i ≠ 11 → i ≠ 12 → hc.1 i = h.1 i) (hu : unD k o t b (tr hc 9) = tr h 9) (hV : VL C (tr hc 9)) :
    ∃ h1 : Hp, f_X0_add 31 (nI k) (nI o) (nI t) b hc = some h1 ∧ (∀ i, i < 31 → h1.1 i = hc.1 i) ∧ (∀ i, 35 < i → h1.1 i = h.1 i) ∧
      ∀ hx : Hp, hx.2 = h1.2 → (∀ i, i ≠ 13 → hx.1 i = h1.1 i) →
      ∃ h2 : Hp, f_X7_noteDoing 41 hx = some h2 ∧ (∀ i, i ≠ 41 → i ≠ 45 → i ≠ 13 → h2.1 i = h1.1 i) ∧ (∀ k, k ≠ 5 → k ≠ 6 → h2.1 41 k = h.1 41 k) ∧
        ∀ h3 : Hp, h3.2 = h2.2 → (∀ i, i ≠ 43 → i ≠ 57 → h3.1 i = h2.1 i) → AG C (tr hc 9) (h3.1 43) → Rel h3 := by
  obtain ⟨n, f, x, hn, hf, hx, d5, d4, m5, m6, HDh⟩ := hD
  obtain ⟨n2, f2, en, h1, a1, a2, aO, a4, a5, a32, a33, a34, a35⟩ := p_add (h := hc) hn hf (by rw [cO 31 (by decide) (by decide) (by decide)]; exact d5) (by rw [cO 31 (by decide) (by decide) (by decide)]; exact d4) (nI k) (nI o) (nI t) b
  have aH : ∀ i, 35 < i → h1.1 i = h.1 i := fun i hi => by rw [aO i (Or.inr hi), cO i (by omega) (by omega) (by omega)]
  have aL : ∀ i, i < 31 → h1.1 i = hc.1 i := fun i hi => aO i (Or.inl hi)
  refine ⟨h1, a1, aL, aH, fun hs es2 esO => ?_⟩
  have e41 : hs.1 41 = h.1 41 := by rw [esO 41 (by decide), aH 41 (by decide)]
  obtain ⟨h2, b1, b2, bO, b41, b5, b6, bd1, bd2⟩ := q_note (h := hs) hn hx (by rw [e41]; exact m5) (by rw [e41]; exact m6)
  refine ⟨h2, b1, fun i z1 z2 z3 => by rw [bO i z1 z2, esO i z3], fun k z1 z2 => by rw [b41 k z1 z2, e41], fun h3 e2 eO eA => ?_⟩
  have g : ∀ i, i ≠ 43 → i ≠ 41 → i ≠ 45 → i ≠ 13 → i ≠ 57 → h3.1 i = h1.1 i := fun i z1 z2 z3 z4 z5 => by rw [eO i z1 z5, bO i z2 z3, esO i z4]
  have g2 : ∀ i, i ≠ 43 → i ≠ 41 → i ≠ 45 → i ≠ 13 → i ≠ 57 → (i < 31 ∨ 35 < i) → i ≠ 10 → i ≠ 11 → i ≠ 12 → h3.1 i = h.1 i := fun i z1 z2 z3 y1 y2 z4 z5 z6 z7 => by
    rw [g i z1 z2 z3 y1 y2, aO i z4, cO i z5 z6 z7]
  have gc : ∀ i, i < 31 → i ≠ 13 → h3.1 i = hc.1 i := fun i hi z => by rw [g i (by omega) (by omega) (by omega) z (by omega), aL i hi]
  have g41 : ∀ k, k ≠ 5 → k ≠ 6 → h3.1 41 k = h.1 41 k := fun k z1 z2 => by rw [eO 41 (by decide) (by decide), b41 k z1 z2, e41]
  have t9 : tr h3 9 = tr hc 9 := by unfold tr; rw [gc _ (by decide) (by decide), gc _ (by decide) (by decide), gc _ (by decide) (by decide)]
  refine ⟨C, ⟨hW.1, ?_, ?_, by rw [t9]; exact hV, by rw [t9]; exact eA⟩, ?_, ?_, ?_, ?_, ?_, ?_⟩
  · rw [g2 9 (by decide) (by decide) (by decide) (by decide) (by decide) (by decide) (by decide) (by decide) (by decide)]; exact hW.2.1
  · rw [g41 13 (by decide) (by decide)]; exact hW.2.2.1
  · refine RlS_c hS ?_ ?_ ?_ ?_ ?_ ?_ ?_ ?_
    · rw [g2 6 (by decide) (by decide) (by decide) (by decide) (by decide) (by decide) (by decide) (by decide) (by decide)]
    · rw [g2 6 (by decide) (by decide) (by decide) (by decide) (by decide) (by decide) (by decide) (by decide) (by decide)]
    · exact g41 _ (by decide) (by decide)
    · exact g41 _ (by decide) (by decide)
    all_goals exact g2 _ (by decide) (by decide) (by decide) (by decide) (by decide) (by decide) (by decide) (by decide) (by decide)
  · refine RlT_c hT ?_ ?_ ?_ ?_
    · rw [g2 1 (by decide) (by decide) (by decide) (by decide) (by decide) (by decide) (by decide) (by decide) (by decide)]
    · exact g41 _ (by decide) (by decide)
    all_goals exact g2 _ (by decide) (by decide) (by decide) (by decide) (by decide) (by decide) (by decide) (by decide) (by decide)
  · refine RlG_c hG ?_ ?_ ?_ ?_ ?_ ?_ ?_ ?_ ?_ ?_
    · rw [g2 36 (by decide) (by decide) (by decide) (by decide) (by decide) (by decide) (by decide) (by decide) (by decide)]
    · exact g41 _ (by decide) (by decide)
    all_goals exact g2 _ (by decide) (by decide) (by decide) (by decide) (by decide) (by decide) (by decide) (by decide) (by decide)
  · refine RlK_c hK ?_ ?_ ?_ ?_ ?_ ?_ ?_ ?_ ?_ ?_ ?_
    all_goals exact g2 _ (by decide) (by decide) (by decide) (by decide) (by decide) (by decide) (by decide) (by decide) (by decide)
  · refine ⟨n2 + 1, f2, (x + 1) % 14, by omega, by omega, by omega, ?_, ?_, ?_, ?_, ?_⟩
    · rw [g 31 (by decide) (by decide) (by decide) (by decide) (by decide)]; exact a5
    · rw [g 31 (by decide) (by decide) (by decide) (by decide) (by decide)]; exact a4
    · rw [eO 41 (by decide) (by decide), b5]
      congr 1
      rcases en with ⟨z1, z2, -⟩ | ⟨z1, z2, -⟩
      · rw [if_neg (by omega), z2]
      · rw [if_pos z1, z2]
    · rw [eO 41 (by decide) (by decide), b6]
    · rw [t9]
      exact HD_add (row := hs.1 43) hW.1 hn hf hx HDh hk hu hW.2.2.2.1 (by rw [esO 43 (by decide), aH 43 (by decide)]; exact hW.2.2.2.2) en rfl
        (by rw [g 32 (by decide) (by decide) (by decide) (by decide) (by decide), a32, cO 32 (by decide) (by decide) (by decide)])
        (by rw [g 33 (by decide) (by decide) (by decide) (by decide) (by decide), a33, cO 33 (by decide) (by decide) (by decide)])
        (by rw [g 34 (by decide) (by decide) (by decide) (by decide) (by decide), a34, cO 34 (by decide) (by decide) (by decide)])
        (by rw [g 35 (by decide) (by decide) (by decide) (by decide) (by decide), a35, cO 35 (by decide) (by decide) (by decide)])
        (fun i hi => by rw [eO 45 (by decide) (by decide)]; exact bd1 i hi)
        (fun y i hy hyx hi => by rw [eO 45 (by decide) (by decide), bd2 y i hy hyx hi, esO 45 (by decide), aH 45 (by decide)])
  · rw [e2, b2, es2, a2, c2]; exact hZ
theorem SK_of {h h' : Hp} {R E : Nat} {rt en : Nat → Nat} (Z : SK h R E rt en) (e6 : h'.1 6 = h.1 6) (e7 : h'.1 7 = h.1 7) (e8 : h'.1 8 = h.1 8) : SK h' R E rt en := by
  unfold SK
  rw [e6, e7, e8]
  exact Z
theorem NK_of {h h' : Hp} {R E : Nat} {rt en : Nat → Nat} (Z : NK h R E rt en) (e11 : h'.1 41 11 = h.1 41 11) (e12 : h'.1 41 12 = h.1 41 12) (e48 : h'.1 48 = h.1 48) (e49 : h'.1 49 = h.1 49) : NK h' R E rt en := by
  unfold NK
  rw [e11, e12, e48, e49]
  exact Z
theorem st_swap {h : Hp} (H : Rel h) (x y : Int32) : St (f_X6_swap 0 x y) (f_X7_swap 41 x y) h := by
  have H0 := H
  obtain ⟨C, hW, hS, hT, hG, hK, hD, hZ⟩ := H
  have hC := hW.1
  have K := hW.wk
  have M := hW.mk
  obtain ⟨R, E, rt, en, Z, Zm⟩ := id hS
  by_cases q : inI x 0 (C - 1) = true
  · by_cases q2 : inI y 0 (C - 1) = true
    · obtain ⟨i, hi, rfl⟩ := inI_of (by omega) q
      obtain ⟨k, hk, rfl⟩ := inI_of (by omega) q2
      have ex : f_X4_exchange 9 (nI i) (nI k) h = some (sA h 11 (upd (upd (h.1 11) i (h.1 11 k)) k (h.1 11 i))) := by
        unfold f_X4_exchange
        rw [R9_2, N_11, if_pos (okI_n (by omega) (by decide)), if_pos (okI_n (by omega) (by decide)), if_pos (okI_n (by omega) (by decide)), if_pos (okI_n (by omega) (by decide)), nI_clamp (by omega), nI_clamp (by omega)]
        congr 1
        show sI (sA h 11 _) 11 _ _ = _
        rw [sI_sA]
      have tc : tr (sA h 11 (upd (upd (h.1 11) i (h.1 11 k)) k (h.1 11 i))) 9 = (upd (upd (h.1 11) i (h.1 11 k)) k (h.1 11 i), h.1 10, h.1 12) := by
        unfold tr; rw [sA_at, sA_ne _ _ (by decide), sA_ne _ _ (by decide)]
      have vls : ∀ j, j < C → ∃ v : Nat, v < C ∧ upd (upd (h.1 11) i (h.1 11 k)) k (h.1 11 i) j = nI v := by
        intro j hj
        simp only [upd]
        by_cases z1 : j = k
        · rw [if_pos z1]; exact hW.2.2.2.1.1 i hi
        · rw [if_neg z1]
          by_cases z2 : j = i
          · rw [if_pos z2]; exact hW.2.2.2.1.1 k hk
          · rw [if_neg z2]; exact hW.2.2.2.1.1 j hj
      obtain ⟨h1, a1, aL, aH, rest⟩ := do_both (k := 1) (o := i) (t := k) (b := 0) hW hS hT hG hK hD hZ (Or.inl ⟨rfl, hi, hk⟩) (hc := sA h 11 (upd (upd (h.1 11) i (h.1 11 k)) k (h.1 11 i))) rfl (fun j z1 z2 z3 => sA_ne _ _ z2) (by rw [tc]; unfold unD; rw [if_pos rfl]; show (_, _, _) = (h.1 11, h.1 10, h.1 12); rw [swap2]) (by rw [tc]; exact ⟨vls, hW.2.2.2.1.2⟩)
      have t1 : tr h1 9 = (upd (upd (h.1 11) i (h.1 11 k)) k (h.1 11 i), h.1 10, h.1 12) := by
        rw [← tc]; unfold tr; rw [aL _ (by decide), aL _ (by decide), aL _ (by decide)]
      have K1 : WK h1 9 C (lnH h1 9) (SH h1 9) (TH h1 9) := by
        refine VL_wk (Or.inl rfl) hC (by rw [aL 9 (by decide), sA_ne _ _ (by decide)]; exact hW.2.1) ?_
        rw [t1]; exact ⟨vls, hW.2.2.2.1.2⟩
      have Z1 : SK h1 R E rt en := SK_of Z (by rw [aL 6 (by decide), sA_ne _ _ (by decide)]) (by rw [aL 7 (by decide), sA_ne _ _ (by decide)]) (by rw [aL 8 (by decide), sA_ne _ _ (by decide)])
      obtain ⟨u, hu⟩ := p_unl (set := 2 ^ C - 1) K1 Z1 (pw16 hC)
      rw [wdK_all K1] at hu
      have hu : f_X4_unlikeWords 9 (nI (2 ^ C - 1)) h1 = some (nI (acN (wdK C E (lnH h1 9) rt en (TH h1 9) (SH h1 9) 15) (R * E)).length, sA h1 13 u) := hu
      obtain ⟨h2, b1, bO, b41, fin⟩ := rest (sA h1 13 u) rfl (fun j z => sA_ne _ _ z)
      have e43 : h2.1 43 = h.1 43 := by rw [bO 43 (by decide) (by decide) (by decide), aH 43 (by decide)]
      have sw : f_X7_swapOn 43 (nI i) (nI k) h2 = some (sA h2 43 (upd (upd (h.1 43) i (h.1 43 k)) k (h.1 43 i))) := by
        unfold f_X7_swapOn
        rw [N_43, if_pos (okI_n (by omega) (by decide)), if_pos (okI_n (by omega) (by decide)), if_pos (okI_n (by omega) (by decide)), if_pos (okI_n (by omega) (by decide)), nI_clamp (by omega), nI_clamp (by omega), e43]
        congr 1
        show sI (sA h2 43 _) 43 _ _ = _
        rw [sI_sA, e43]
      have ag : AG C (upd (upd (h.1 11) i (h.1 11 k)) k (h.1 11 i), h.1 10, h.1 12) (upd (upd (h.1 43) i (h.1 43 k)) k (h.1 43 i)) := by
        obtain ⟨g1, g2, g3⟩ := hW.2.2.2.2
        have g1 : ∀ j, j < C → h.1 11 j = h.1 43 j := g1
        refine ⟨fun j hj => ?_, fun j hj => ?_, fun j hj => ?_⟩
        · simp only [upd]; rw [g1 i hi, g1 k hk, g1 j hj]
        · rw [upd_ne _ _ (by omega), upd_ne _ _ (by omega)]; exact g2 j hj
        · rw [upd_ne _ _ (by omega), upd_ne _ _ (by omega)]; exact g3 j hj
      have m3 : (sA h2 43 (upd (upd (h.1 43) i (h.1 43 k)) k (h.1 43 i))).1 41 13 = nI C := by rw [sA_ne _ _ (by decide), b41 13 (by decide) (by decide)]; exact hW.2.2.1
      have M1 : MK (sA h2 43 (upd (upd (h.1 43) i (h.1 43 k)) k (h.1 43 i))) 43 C (lnH h1 9) (SH h1 9) (TH h1 9) := by
        have tt : tr (sA h2 43 (upd (upd (h.1 43) i (h.1 43 k)) k (h.1 43 i))) 9 = tr h1 9 := by
          unfold tr; rw [sA_ne _ _ (by decide), sA_ne _ _ (by decide), sA_ne _ _ (by decide), bO _ (by decide) (by decide) (by decide), bO _ (by decide) (by decide) (by decide), bO _ (by decide) (by decide) (by decide)]
        have mm := AG_mk (a := 9) (r := 43) (h := sA h2 43 (upd (upd (h.1 43) i (h.1 43 k)) k (h.1 43 i))) (Or.inl rfl) hC m3 (by rw [tt, t1]; exact ⟨vls, hW.2.2.2.1.2⟩) (by rw [tt, t1, sA_at]; exact ag)
        unfold lnH SH TH at mm ⊢
        rw [sA_ne _ _ (by decide), sA_ne _ _ (by decide), bO _ (by decide) (by decide) (by decide), bO _ (by decide) (by decide) (by decide)] at mm
        exact mm
      have Zm1 : NK (sA h2 43 (upd (upd (h.1 43) i (h.1 43 k)) k (h.1 43 i))) R E rt en := NK_of Zm (by rw [sA_ne _ _ (by decide), b41 11 (by decide) (by decide)]) (by rw [sA_ne _ _ (by decide), b41 12 (by decide) (by decide)]) (by rw [sA_ne _ _ (by decide), bO 48 (by decide) (by decide) (by decide), aH 48 (by decide)]) (by rw [sA_ne _ _ (by decide), bO 49 (by decide) (by decide) (by decide), aH 49 (by decide)])
      obtain ⟨v, hv⟩ := q_unl (set := 15) M1 Zm1 (by decide)
      have M0 : MK (sA h1 13 u) 43 C (lnH h 9) (SH h 9) (TH h 9) := by
        unfold MK
        rw [sA_ne _ _ (by decide), sA_ne _ _ (by decide), aH 41 (by decide), aH 43 (by decide)]
        exact M
      refine ⟨nI (acN (wdK C E (lnH h1 9) rt en (TH h1 9) (SH h1 9) 15) (R * E)).length, sA h1 13 u, sA (sA h2 43 (upd (upd (h.1 43) i (h.1 43 k)) k (h.1 43 i))) 57 v, ?_, ?_, ?_⟩
      · unfold f_X6_swap
        rw [R0_2, R0_6, p_hasChange K, bnd_s, ifb, if_pos q, p_hasChange K, bnd_s, ifb, if_pos q2, ex, bind_s, L1, L0, ← L0]
        have a1' : f_X0_add 31 (nI 1) (nI i) (nI k) 0 (sA h 11 (upd (upd (h.1 11) i (h.1 11 k)) k (h.1 11 i))) = some h1 := a1
        rw [a1', bind_s, p_all K1, bnd_s, hu, bnd_s]
      · unfold f_X7_swap
        rw [p_isChange M0, bnd_s, ifb, if_pos q, p_isChange M0, bnd_s, ifb, if_pos q2, b1, bind_s, R41_2, sw, bind_s, L15, hv, bnd_s]
      · refine fin _ rfl (fun j z1 z2 => by rw [sA_ne _ _ z2, sA_ne _ _ z1]) ?_
        rw [tc, sA_ne _ _ (by decide), sA_at]
        exact ag
    · refine St_ro H0 (r := -1) ?_ ?_
      · unfold f_X6_swap
        rw [R0_2, p_hasChange K, bnd_s, ifb, if_pos q, p_hasChange K, bnd_s, ifb, if_neg q2]
      · unfold f_X7_swap
        rw [p_isChange M, bnd_s, ifb, if_pos q, p_isChange M, bnd_s, ifb, if_neg q2]
  · refine St_ro H0 (r := -1) ?_ ?_
    · unfold f_X6_swap
      rw [R0_2, p_hasChange K, bnd_s, ifb, if_neg q]
    · unfold f_X7_swap
      rw [p_isChange M, bnd_s, ifb, if_neg q]
/-! signs -/
def sgB (w v : Int32) : Bool := (decide (w = 0) && inI v 1 5) || (decide (w = 1) && inI v 0 5) || (decide (w = 2) && inI v 1 7) || (decide (w = 3) && inI v 1 7)
theorem rng (v : Int32) (lo hi : Int32) (a b : Int) (ha : lo.toInt = a) (hb : hi.toInt = b) (h : Hp) : (if v < lo then some ((0 : Int32), h) else if hi < v then some (0, h) else some (1, h)) = some (b01 (inI v a b), h) := by
  unfold inI b01
  have e1 : v < lo ↔ v.toInt < a := by rw [Int32.lt_iff_toInt_lt, ha]
  have e2 : hi < v ↔ b < v.toInt := by rw [Int32.lt_iff_toInt_lt, hb]
  by_cases q1 : v.toInt < a
  · rw [if_pos (e1.mpr q1), if_neg (by simp; omega)]
  · rw [if_neg (fun z => q1 (e1.mp z))]
    by_cases q2 : b < v.toInt
    · rw [if_pos (e2.mpr q2), if_neg (by simp; omega)]
    · rw [if_neg (fun z => q2 (e2.mp z)), if_pos (by simp; omega)]
theorem p_allow (w v : Int32) (h : Hp) : f_X6_allowsSign w v h = some (b01 (sgB w v), h) := by
  unfold f_X6_allowsSign sgB
  rw [rng v 1 5 1 5 rfl rfl, rng v 0 5 0 5 rfl rfl, rng v 1 7 1 7 rfl rfl]
  by_cases q0 : w = 0
  · subst q0; simp
  by_cases q1 : w = 1
  · subst q1; simp
  by_cases q2 : w = 2
  · subst q2; simp
  by_cases q3 : w = 3
  · subst q3; simp
  simp [q0, q1, q2, q3, b01]
theorem q_isSign (w v : Int32) (h : Hp) : f_X7_isSign w v h = some (b01 (sgB w v), h) := by
  unfold f_X7_isSign sgB
  rw [p_in32 v 1 5 1 5 rfl rfl, p_in32 v 0 5 0 5 rfl rfl, p_in32 v 1 7 1 7 rfl rfl, bnd_s, bnd_s, bnd_s]
  simp only [okZ_b, if_true]
  by_cases q0 : w = 0
  · subst q0; simp
  by_cases q1 : w = 1
  · subst q1; simp
  by_cases q2 : w = 2
  · subst q2; simp
  by_cases q3 : w = 3
  · subst q3; simp
  simp [q0, q1, q2, q3, b01]
theorem sgB_of {w v : Int32} (h : sgB w v = true) : ∃ k : Nat, k < 4 ∧ w = nI k ∧ (k = 1 → ∃ t : Nat, t < 10 ∧ v = nI t) := by
  unfold sgB at h
  simp only [Bool.or_eq_true, Bool.and_eq_true, decide_eq_true_eq] at h
  rcases h with ((⟨h1, h2⟩ | ⟨h1, h2⟩) | ⟨h1, h2⟩) | ⟨h1, h2⟩
  · exact ⟨0, by decide, h1, fun z => absurd z (by decide)⟩
  · obtain ⟨t, ht, rfl⟩ := inI_0 (n := 5) (by decide) h2
    exact ⟨1, by decide, h1, fun _ => ⟨t, by omega, rfl⟩⟩
  · exact ⟨2, by decide, h1, fun z => absurd z (by decide)⟩
  · exact ⟨3, by decide, h1, fun z => absurd z (by decide)⟩
theorem st_resign {h : Hp} (H : Rel h) (x y z : Int32) : St (f_X6_resign 0 x y z) (f_X7_resign 41 x y z) h := by
  have H0 := H
  obtain ⟨C, hW, hS, hT, hG, hK, hD, hZ⟩ := H
  have hC := hW.1
  have K := hW.wk
  have M := hW.mk
  by_cases q : inI x 0 (C - 1) = true
  · by_cases q2 : sgB y z = true
    · obtain ⟨c, hc, rfl⟩ := inI_of (by omega) q
      obtain ⟨k, hk, rfl, hz⟩ := sgB_of q2
      have ex : f_X4_putSign 9 (nI c) (nI k) z h = some (sA h 10 (upd (h.1 10) (c * 4 + k) z)) := by
        unfold f_X4_putSign
        rw [R9_1, N_10, L4, pk_mul, nI_add, if_pos (okI_n (by omega) (by decide)), nI_clamp (by omega)]
        rfl
      have tc : tr (sA h 10 (upd (h.1 10) (c * 4 + k) z)) 9 = (h.1 11, upd (h.1 10) (c * 4 + k) z, h.1 12) := by
        unfold tr; rw [sA_at, sA_ne _ _ (by decide), sA_ne _ _ (by decide)]
      have vl : VL C (h.1 11, upd (h.1 10) (c * 4 + k) z, h.1 12) := by
        refine ⟨hW.2.2.2.1.1, fun c' hc' => ?_⟩
        by_cases w : c' * 4 + 1 = c * 4 + k
        · obtain ⟨t, ht, rfl⟩ := hz (by omega)
          exact ⟨t, ht, by show upd _ _ _ _ = _; rw [w, upd_at]⟩
        · obtain ⟨t, ht, e⟩ := hW.2.2.2.1.2 c' hc'
          exact ⟨t, ht, by show upd _ _ _ _ = _; rw [upd_ne _ _ w]; exact e⟩
      obtain ⟨h1, a1, aL, aH, rest⟩ := do_both (k := 2) (o := c) (t := k) (b := h.1 10 (c * 4 + k)) hW hS hT hG hK hD hZ (Or.inr (Or.inl ⟨rfl, hc, hk⟩)) (hc := sA h 10 (upd (h.1 10) (c * 4 + k) z)) rfl (fun j z1 z2 z3 => sA_ne _ _ z1) (by rw [tc]; unfold unD; rw [if_neg (by decide), if_pos rfl]; show (_, _, _) = (h.1 11, h.1 10, h.1 12); rw [upd2]) (by rw [tc]; exact vl)
      obtain ⟨h2, b1, bO, b41, fin⟩ := rest h1 rfl (fun j _ => rfl)
      have e43 : h2.1 43 = h.1 43 := by rw [bO 43 (by decide) (by decide) (by decide), aH 43 (by decide)]
      have M0 : MK h1 43 C (lnH h 9) (SH h 9) (TH h 9) := by
        unfold MK
        rw [aH 41 (by decide), aH 43 (by decide)]
        exact M
      refine ⟨h.1 10 (c * 4 + k), h1, sA h2 43 (upd (h.1 43) (4 + 4 * c + k) z), ?_, ?_, ?_⟩
      · unfold f_X6_resign
        rw [R0_2, R0_6, p_hasChange K, bnd_s, ifb, if_pos q, p_allow, bnd_s, ifb, if_pos q2, p_signOf K hc hk, bnd_s, ex, bind_s, L2]
        have a1' : f_X0_add 31 (nI 2) (nI c) (nI k) (SH h 9 c k) (sA h 10 (upd (h.1 10) (c * 4 + k) z)) = some h1 := a1
        rw [a1', bind_s]
        rfl
      · unfold f_X7_resign
        rw [p_isChange M0, bnd_s, ifb, if_pos q, q_isSign, bnd_s, ifb, if_pos q2, b1, bind_s, R41_2, N_43, L4, pk_mul, nI_add, nI_add, if_pos (okI_n (by omega) (by decide)), if_pos (okI_n (by omega) (by decide)), nI_clamp (by omega), e43]
        have e9 : h.1 10 (c * 4 + k) = h.1 43 (4 + 4 * c + k) := by
          have := hW.2.2.2.2.2.1 (c * 4 + k) (by omega)
          rw [show 4 + 4 * c + k = 4 + (c * 4 + k) by omega]
          exact this
        rw [e9]
        unfold sI
        rw [e43]
      · refine fin _ rfl (fun j z1 z2 => by rw [sA_ne _ _ z1]) ?_
        rw [tc, sA_at]
        obtain ⟨g1, g2, g3⟩ := hW.2.2.2.2
        refine ⟨fun j hj => ?_, fun j hj => ?_, fun j hj => ?_⟩
        · rw [upd_ne _ _ (by omega)]; exact g1 j hj
        · show upd _ _ _ _ = upd _ _ _ _
          by_cases w : j = c * 4 + k
          · rw [w, upd_at, show 4 + (c * 4 + k) = 4 + 4 * c + k by omega, upd_at]
          · rw [upd_ne _ _ w, upd_ne _ _ (by omega)]; exact g2 j hj
        · rw [upd_ne _ _ (by omega)]; exact g3 j hj
    · refine St_ro H0 (r := -2) ?_ ?_
      · unfold f_X6_resign
        rw [R0_2, p_hasChange K, bnd_s, ifb, if_pos q, p_allow, bnd_s, ifb, if_neg q2]
      · unfold f_X7_resign
        rw [p_isChange M, bnd_s, ifb, if_pos q, q_isSign, bnd_s, ifb, if_neg q2]
  · refine St_ro H0 (r := -1) ?_ ?_
    · unfold f_X6_resign
      rw [R0_2, p_hasChange K, bnd_s, ifb, if_neg q]
    · unfold f_X7_resign
      rw [p_isChange M, bnd_s, ifb, if_neg q]
theorem tell_nk {h : Hp} (H : Rel h) {R E : Nat} {rt en : Nat → Nat} (Z : SK h R E rt en) (Zm : NK h R E rt en) {i e : Nat} (hi : i < R) (he : e < E) (z : Int32) : ∃ (r : Int32) (h1 h2 : Hp), g_X6_tell_30 0 (nI i) (nI e) z h = some (r, h1) ∧ g_X7_tell_34 41 (nI i) (nI e) z h1 = some (r, h2) ∧ Rel h2 ∧ NK h1 R E rt en := by
  obtain ⟨C, hW, hS, hT, hG, hK, hD, hZ⟩ := H
  have hC := hW.1
  have hR := Z.1
  have hE := Z.2.1
  have ex : f_X4_putForm 9 (nI i) (nI e) z h = some (sA h 12 (upd (h.1 12) (i * 3 + e) z)) := by
    unfold f_X4_putForm
    rw [R9_3, N_12, L3, pk_mul, nI_add, if_pos (okI_n (by omega) (by decide)), nI_clamp (by omega)]
    rfl
  have tc : tr (sA h 12 (upd (h.1 12) (i * 3 + e) z)) 9 = (h.1 11, h.1 10, upd (h.1 12) (i * 3 + e) z) := by
    unfold tr; rw [sA_at, sA_ne _ _ (by decide), sA_ne _ _ (by decide)]
  have vl : VL C (h.1 11, h.1 10, upd (h.1 12) (i * 3 + e) z) := hW.2.2.2.1
  obtain ⟨h1, a1, aL, aH, rest⟩ := do_both (k := 3) (o := i) (t := e) (b := h.1 12 (i * 3 + e)) hW hS hT hG hK hD hZ (Or.inr (Or.inr ⟨rfl, by omega, by omega⟩)) (hc := sA h 12 (upd (h.1 12) (i * 3 + e) z)) rfl (fun j z1 z2 z3 => sA_ne _ _ z3) (by rw [tc]; unfold unD; rw [if_neg (by decide), if_neg (by decide)]; show (_, _, _) = (h.1 11, h.1 10, h.1 12); rw [upd2]) (by rw [tc]; exact vl)
  obtain ⟨h2, b1, bO, b41, fin⟩ := rest h1 rfl (fun j _ => rfl)
  have e43 : h2.1 43 = h.1 43 := by rw [bO 43 (by decide) (by decide) (by decide), aH 43 (by decide)]
  have t1 : tr h1 9 = (h.1 11, h.1 10, upd (h.1 12) (i * 3 + e) z) := by
    rw [← tc]; unfold tr; rw [aL _ (by decide), aL _ (by decide), aL _ (by decide)]
  have K1 : WK h1 9 C (lnH h1 9) (SH h1 9) (TH h1 9) := by
    refine VL_wk (Or.inl rfl) hC (by rw [aL 9 (by decide), sA_ne _ _ (by decide)]; exact hW.2.1) ?_
    rw [t1]; exact vl
  have Z1 : SK h1 R E rt en := SK_of Z (by rw [aL 6 (by decide), sA_ne _ _ (by decide)]) (by rw [aL 7 (by decide), sA_ne _ _ (by decide)]) (by rw [aL 8 (by decide), sA_ne _ _ (by decide)])
  have f12 : h1.1 12 = upd (h.1 12) (i * 3 + e) z := by rw [aL 12 (by decide), sA_at]
  have ag : AG C (h.1 11, h.1 10, upd (h.1 12) (i * 3 + e) z) (upd (h.1 43) (20 + 3 * i + e) z) := by
    obtain ⟨g1, g2, g3⟩ := hW.2.2.2.2
    refine ⟨fun j hj => ?_, fun j hj => ?_, fun j hj => ?_⟩
    · rw [upd_ne _ _ (by omega)]; exact g1 j hj
    · rw [upd_ne _ _ (by omega)]; exact g2 j hj
    · show upd _ _ _ _ = upd _ _ _ _
      by_cases w : j = i * 3 + e
      · rw [w, upd_at, show 20 + (i * 3 + e) = 20 + 3 * i + e by omega, upd_at]
      · rw [upd_ne _ _ w, upd_ne _ _ (by omega)]; exact g3 j hj
  have m3 : (sA h2 43 (upd (h.1 43) (20 + 3 * i + e) z)).1 41 13 = nI C := by rw [sA_ne _ _ (by decide), b41 13 (by decide) (by decide)]; exact hW.2.2.1
  have tt : tr (sA h2 43 (upd (h.1 43) (20 + 3 * i + e) z)) 9 = tr h1 9 := by
    unfold tr; rw [sA_ne _ _ (by decide), sA_ne _ _ (by decide), sA_ne _ _ (by decide), bO _ (by decide) (by decide) (by decide), bO _ (by decide) (by decide) (by decide), bO _ (by decide) (by decide) (by decide)]
  have M1 : MK (sA h2 43 (upd (h.1 43) (20 + 3 * i + e) z)) 43 C (lnH h1 9) (SH h1 9) (TH h1 9) := by
    have mm := AG_mk (a := 9) (r := 43) (h := sA h2 43 (upd (h.1 43) (20 + 3 * i + e) z)) (Or.inl rfl) hC m3 (by rw [tt, t1]; exact vl) (by rw [tt, t1, sA_at]; exact ag)
    unfold lnH SH TH at mm ⊢
    rw [sA_ne _ _ (by decide), sA_ne _ _ (by decide), bO _ (by decide) (by decide) (by decide), bO _ (by decide) (by decide) (by decide)] at mm
    exact mm
  have Zm1 : NK (sA h2 43 (upd (h.1 43) (20 + 3 * i + e) z)) R E rt en := NK_of Zm (by rw [sA_ne _ _ (by decide), b41 11 (by decide) (by decide)]) (by rw [sA_ne _ _ (by decide), b41 12 (by decide) (by decide)]) (by rw [sA_ne _ _ (by decide), bO 48 (by decide) (by decide) (by decide), aH 48 (by decide)]) (by rw [sA_ne _ _ (by decide), bO 49 (by decide) (by decide) (by decide), aH 49 (by decide)])
  have x1 := p_exc (fm := upd (h.1 12) (i * 3 + e) z) K1 Z1 (fun j _ => by show h1.1 12 j = _; rw [f12])
  have x2 := q_exc (fm := upd (h.1 12) (i * 3 + e) z) M1 Zm1 (fun j hj => by rw [sA_at]; exact (ag.2.2 j hj).symm)
  refine ⟨nI (exR (upd (h.1 12) (i * 3 + e) z) (mkW C (lnH h1 9) rt en (TH h1 9) (SH h1 9)) E R), h1, sA h2 43 (upd (h.1 43) (20 + 3 * i + e) z), ?_, ?_, ?_, NK_of Zm (by rw [aH 41 (by decide)]) (by rw [aH 41 (by decide)]) (aH 48 (by decide)) (aH 49 (by decide))⟩
  · unfold g_X6_tell_30
    rw [R0_2, R0_6, p_formOf (fm := h.1 12) (Or.inl rfl) (fun _ _ => rfl) (by omega) (by omega), bnd_s, ex, bind_s, L3]
    have a1' : f_X0_add 31 (nI 3) (nI i) (nI e) (h.1 12 (3 * i + e)) (sA h 12 (upd (h.1 12) (i * 3 + e) z)) = some h1 := by rw [Nat.mul_comm 3 i]; exact a1
    rw [a1', bind_s, x1, bnd_s]
  · unfold g_X7_tell_34
    rw [b1, bind_s, R41_2, N_43, L20, L3, pk_mul, nI_add, nI_add, if_pos (okI_n (by omega) (by decide)), nI_clamp (by omega)]
    have e9 : sI h2 43 (20 + 3 * i + e) z = sA h2 43 (upd (h.1 43) (20 + 3 * i + e) z) := by unfold sI; rw [e43]
    rw [e9, x2, bnd_s]
  · refine fin _ rfl (fun j z1 z2 => by rw [sA_ne _ _ z1]) ?_
    rw [tc, sA_at]
    exact ag
theorem st_tell {h : Hp} (H : Rel h) (x y z : Int32) : St (f_X6_tell 0 x y z) (f_X7_tell 41 x y z) h := by
  have H0 := H
  obtain ⟨C, hW, ⟨R, E, rt, en, Z, Zm⟩, -⟩ := H
  have hR := Z.1
  have hE := Z.2.1
  by_cases q : inI x 0 (R - 1) = true
  · by_cases q2 : inI y 0 (E - 1) = true
    · obtain ⟨i, hi, rfl⟩ := inI_of (by omega) q
      obtain ⟨e, he, rfl⟩ := inI_of (by omega) q2
      have key : z = -9 ∨ isWd z = true → St (f_X6_tell 0 (nI i) (nI e) z) (f_X7_tell 41 (nI i) (nI e) z) h := by
        intro hz
        have e1 : f_X6_tell 0 (nI i) (nI e) z h = g_X6_tell_30 0 (nI i) (nI e) z h := by
          unfold f_X6_tell
          rw [R0_1, p_hasPair Z, bnd_s, ifb, q, q2, if_pos (show (true && true) = true from rfl)]
          by_cases q3 : z = -9
          · rw [if_pos q3]
          · rw [if_neg q3, p_isWord, bnd_s, ifb, if_pos (hz.resolve_left q3)]
        have frame : ∀ hh : Hp, NK hh R E rt en → f_X7_tell 41 (nI i) (nI e) z hh = g_X7_tell_34 41 (nI i) (nI e) z hh := by
          intro hh Zh
          unfold f_X7_tell
          rw [p_isRoot Zh, bnd_s, ifb, if_pos q, p_isEnding Zh, bnd_s, ifb, if_pos q2]
          by_cases q3 : z = -9
          · rw [if_pos q3]
          · rw [if_neg q3, q_isWord, bnd_s, ifb, if_pos (hz.resolve_left q3)]
        obtain ⟨r', h1', h2', c1', c2', c3', nk⟩ := tell_nk H0 Z Zm hi he z
        exact ⟨r', h1', h2', e1.trans c1', (frame _ nk).trans c2', c3'⟩
      by_cases q3 : z = -9
      · exact key (Or.inl q3)
      · by_cases q4 : isWd z = true
        · exact key (Or.inr q4)
        · refine St_ro H0 (r := -2) ?_ ?_
          · unfold f_X6_tell
            rw [R0_1, p_hasPair Z, bnd_s, ifb, q, q2, if_pos (show (true && true) = true from rfl), if_neg q3, p_isWord, bnd_s, ifb, if_neg q4]
          · unfold f_X7_tell
            rw [p_isRoot Zm, bnd_s, ifb, if_pos q, p_isEnding Zm, bnd_s, ifb, if_pos q2, if_neg q3, q_isWord, bnd_s, ifb, if_neg q4]
    · refine St_ro H0 (r := -1) ?_ ?_
      · unfold f_X6_tell
        rw [R0_1, p_hasPair Z, bnd_s, ifb, q, bfalse q2, if_neg (by decide)]
      · unfold f_X7_tell
        rw [p_isRoot Zm, bnd_s, ifb, if_pos q, p_isEnding Zm, bnd_s, ifb, if_neg q2]
  · refine St_ro H0 (r := -1) ?_ ?_
    · unfold f_X6_tell
      rw [R0_1, p_hasPair Z, bnd_s, ifb, bfalse q, if_neg (by simp)]
    · unfold f_X7_tell
      rw [p_isRoot Zm, bnd_s, ifb, if_neg q]
