/-! undone -/
theorem q_undoL {h : Hp} {x : Nat} (hx : x < 14) (h6 : h.1 41 6 = nI x) : ∀ (d n i : Nat) (nw : Nat → Int32), d < n → i + d = 32 → (∀ j, j < i → nw j = h.1 45 (32 * x + j)) →
    ∃ nw', (∀ j, j < 32 → nw' j = h.1 45 (32 * x + j)) ∧ f_X7_undo_38 41 n (nI i) (sA h 43 nw) = some (h.1 41 5, sA h 43 nw') := by
  intro d
  induction d with
  | zero =>
    intro n i nw hn hd h1
    obtain ⟨n, rfl⟩ : ∃ m, n = m + 1 := ⟨n - 1, by omega⟩
    refine ⟨nw, fun j hj => h1 j (by omega), ?_⟩
    rw [s_X7_undo_38]
    unfold g_X7_undo_38
    rw [L32, if_pos (by rw [nI_leI (by omega) (by omega)]; omega), sA_ne _ _ (by decide)]
  | succ d ih =>
    intro n i nw hn hd h1
    obtain ⟨n, rfl⟩ : ∃ m, n = m + 1 := ⟨n - 1, by omega⟩
    obtain ⟨nw', k1, k3⟩ := ih n (i + 1) (upd nw i (h.1 45 (32 * x + i))) (by omega) (by omega) (fun j hj => by
      by_cases q : j = i
      · subst q; rw [upd_at]
      · rw [upd_ne _ _ q]; exact h1 j (by omega))
    refine ⟨nw', k1, ?_⟩
    have e6 : (sA h 43 nw).1 41 6 = nI x := by rw [sA_ne _ _ (by decide)]; exact h6
    rw [← k3, s_X7_undo_38]
    unfold g_X7_undo_38
    rw [L32, if_neg (by rw [nI_leI (by omega) (by omega)]; omega), R41_2, R41_4, N_43, N_45, e6, pk_mul, nI_add, if_pos (okI_n (by omega) (by decide)), if_pos (okI_n (by omega) (by decide)), nI_clamp (by omega), nI_clamp (by omega), sI_sA, sA_ne _ _ (show (45 : Nat) ≠ 43 by decide), L1, nI_add]
theorem p_exch {h : Hp} {a i k : Nat} (ha : isW a) (hi : i < 4) (hk : k < 4) : f_X4_exchange a (nI i) (nI k) h = some (sA h (a + 2) (upd (upd (h.1 (a + 2)) i (h.1 (a + 2) k)) k (h.1 (a + 2) i))) := by
  obtain ⟨-, -, r2, -, -, -, l2, -⟩ := isW_r ha
  unfold f_X4_exchange
  rw [r2, l2, if_pos (okI_n hi (by decide)), if_pos (okI_n hk (by decide)), if_pos (okI_n hi (by decide)), if_pos (okI_n hk (by decide)), nI_clamp (by omega), nI_clamp (by omega)]
  congr 1
  show sI (sA h (a + 2) _) (a + 2) _ _ = _
  rw [sI_sA]
theorem p_putSign {h : Hp} {a c k : Nat} (ha : isW a) (hc : c < 4) (hk : k < 4) (z : Int32) : f_X4_putSign a (nI c) (nI k) z h = some (sA h (a + 1) (upd (h.1 (a + 1)) (c * 4 + k) z)) := by
  obtain ⟨-, r1, -, -, -, l1, -⟩ := isW_r ha
  unfold f_X4_putSign
  rw [r1, l1, L4, pk_mul, nI_add, if_pos (okI_n (by omega) (by decide)), nI_clamp (by omega)]
  rfl
theorem p_putForm {h : Hp} {a i e : Nat} (ha : isW a) (hi : i < 4) (he : e < 3) (z : Int32) : f_X4_putForm a (nI i) (nI e) z h = some (sA h (a + 3) (upd (h.1 (a + 3)) (i * 3 + e) z)) := by
  obtain ⟨-, -, -, r3, -, -, -, l3, -⟩ := isW_r ha
  unfold f_X4_putForm
  rw [r3, l3, L3, pk_mul, nI_add, if_pos (okI_n (by omega) (by decide)), nI_clamp (by omega)]
  rfl
theorem st_undo {h : Hp} (H : Rel h) : St (f_X6_undo 0) (f_X7_undo 41) h := by
  have H0 := H
  obtain ⟨C, hW, hS, hT, hG, hK, ⟨n, f, x, hn, hf, hx, d5, d4, m5, m6, HDh⟩, hZ⟩ := H
  have hC := hW.1
  by_cases q : n = 0
  · refine St_ro H0 (r := -3) ?_ ?_
    · unfold f_X6_undo
      rw [R0_6, d5, if_pos (by rw [q]; rfl)]
    · unfold f_X7_undo
      rw [m5, if_pos (by rw [q]; rfl)]
  · obtain ⟨n, rfl⟩ : ∃ m, n = m + 1 := ⟨n - 1, by omega⟩
    obtain ⟨k, o, t, hk, g1, g2, g3, hV, hA, hH⟩ := HD_un hn hf hx HDh
    have hp : (f + n) % 14 < 14 := Nat.mod_lt _ (by decide)
    have hq : (x + 13) % 14 < 14 := Nat.mod_lt _ (by decide)
    -- the class
    have cls : ∃ h1 : Hp, f_X0_takeBackLast 31 9 h = some h1 ∧ h1.2 = h.2 ∧ (∀ i, i ≠ 10 → i ≠ 11 → i ≠ 12 → i ≠ 31 → h1.1 i = h.1 i) ∧ h1.1 31 4 = nI f ∧ h1.1 31 5 = nI n ∧ tr h1 9 = unD k o t (h.1 35 ((f + n) % 14)) (tr h 9) := by
      have hne : ¬ nI (n + 1) = 0 := by rw [L0, nI_eq (by omega) (by omega)]; omega
      have e5 : (sI h 31 5 (nI n)).1 31 5 = nI n := rI_at _ _ _ _
      have e4 : (sI h 31 5 (nI n)).1 31 4 = nI f := by rw [rI_k _ _ (by decide)]; exact d4
      have e32 : (sI h 31 5 (nI n)).1 32 ((f + n) % 14) = nI k := by rw [rI_ne _ _ (by decide)]; exact g1
      have e33 : (sI h 31 5 (nI n)).1 33 ((f + n) % 14) = nI o := by rw [rI_ne _ _ (by decide)]; exact g2
      have e34 : (sI h 31 5 (nI n)).1 34 ((f + n) % 14) = nI t := by rw [rI_ne _ _ (by decide)]; exact g3
      have e35 : (sI h 31 5 (nI n)).1 35 ((f + n) % 14) = h.1 35 ((f + n) % 14) := by rw [rI_ne _ _ (by decide)]
      have eo : ∀ i, i ≠ 31 → (sI h 31 5 (nI n)).1 i = h.1 i := fun i hi => rI_ne _ _ hi
      have pre : f_X0_takeBackLast 31 9 h = (if nI k = 1 then (f_X4_exchange 9 (nI o) (nI t) (sI h 31 5 (nI n))).bind (fun h7 => some h7) else if nI k = 2 then (f_X4_putSign 9 (nI o) (nI t) (h.1 35 ((f + n) % 14)) (sI h 31 5 (nI n))).bind (fun h7 => some h7) else if nI k = 3 then (f_X4_putForm 9 (nI o) (nI t) (h.1 35 ((f + n) % 14)) (sI h 31 5 (nI n))).bind (fun h7 => some h7) else some (sI h 31 5 (nI n))) := by
        unfold f_X0_takeBackLast
        rw [d5, if_neg hne, L1, pk_sub (show 1 ≤ n + 1 by omega), show n + 1 - 1 = n by omega, e4, e5, nI_add, L14, pk_rem (by omega) (by decide) (by decide), R31_0, R31_1, R31_2, R31_3, N_32, N_33, N_34, N_35, nI_clamp (by omega), e32, e33, e34, e35]
        simp only [if_pos (okI_n hp (show 14 < 2 ^ 31 by decide))]
      rcases hk with ⟨rfl, ho, ht⟩ | ⟨rfl, ho, ht⟩ | ⟨rfl, ho, ht⟩
      · refine ⟨sA (sI h 31 5 (nI n)) 11 (upd (upd (h.1 11) o (h.1 11 t)) t (h.1 11 o)), ?_, rfl, fun i z1 z2 z3 z4 => by rw [sA_ne _ _ z2, eo i z4], by rw [sA_ne _ _ (by decide)]; exact e4, by rw [sA_ne _ _ (by decide)]; exact e5, ?_⟩
        · rw [pre, if_pos (by decide), p_exch (Or.inl rfl) (by omega) (by omega), bind_s]
          show some (sA _ 11 _) = _
          rw [eo 11 (by decide)]
        · unfold tr unD
          rw [if_pos rfl, sA_at, sA_ne _ _ (by decide), sA_ne _ _ (by decide), eo _ (by decide), eo _ (by decide)]
      · refine ⟨sA (sI h 31 5 (nI n)) 10 (upd (h.1 10) (o * 4 + t) (h.1 35 ((f + n) % 14))), ?_, rfl, fun i z1 z2 z3 z4 => by rw [sA_ne _ _ z1, eo i z4], by rw [sA_ne _ _ (by decide)]; exact e4, by rw [sA_ne _ _ (by decide)]; exact e5, ?_⟩
        · rw [pre, if_neg (by decide), if_pos (by decide), p_putSign (Or.inl rfl) (by omega) ht, bind_s]
          show some (sA _ 10 _) = _
          rw [eo 10 (by decide)]
        · unfold tr unD
          rw [if_neg (by decide), if_pos rfl, sA_at, sA_ne _ _ (by decide), sA_ne _ _ (by decide), eo _ (by decide), eo _ (by decide)]
      · refine ⟨sA (sI h 31 5 (nI n)) 12 (upd (h.1 12) (o * 3 + t) (h.1 35 ((f + n) % 14))), ?_, rfl, fun i z1 z2 z3 z4 => by rw [sA_ne _ _ z3, eo i z4], by rw [sA_ne _ _ (by decide)]; exact e4, by rw [sA_ne _ _ (by decide)]; exact e5, ?_⟩
        · rw [pre, if_neg (by decide), if_neg (by decide), if_pos (by decide), p_putForm (Or.inl rfl) ho ht, bind_s]
          show some (sA _ 12 _) = _
          rw [eo 12 (by decide)]
        · unfold tr unD
          rw [if_neg (by decide), if_neg (by decide), sA_at, sA_ne _ _ (by decide), sA_ne _ _ (by decide), eo _ (by decide), eo _ (by decide)]
    obtain ⟨h1, c1, c2, cO, c4, c5, ct⟩ := cls
    -- the reference
    have e41 : h1.1 41 = h.1 41 := cO 41 (by decide) (by decide) (by decide) (by decide)
    obtain ⟨nw, k1, k3⟩ := q_undoL (h := sI (sI h1 41 5 (nI n)) 41 6 (nI ((x + 13) % 14))) hq (rI_at _ _ _ _) 32 FU 0 ((sI (sI h1 41 5 (nI n)) 41 6 (nI ((x + 13) % 14))).1 43) (by decide) rfl (fun j hj => absurd hj (by omega))
    rw [sA_self] at k3
    have nw1 : ∀ j, j < 32 → nw j = h.1 45 (32 * ((x + 13) % 14) + j) := fun j hj => by
      rw [k1 j hj, rI_ne _ _ (by decide), rI_ne _ _ (by decide), cO 45 (by decide) (by decide) (by decide) (by decide)]
    refine ⟨nI n, h1, sA (sI (sI h1 41 5 (nI n)) 41 6 (nI ((x + 13) % 14))) 43 nw, ?_, ?_, ?_⟩
    · unfold f_X6_undo
      rw [R0_6, R0_2, d5, if_neg (by rw [L0, nI_eq (by omega) (by omega)]; omega), c1, bind_s, c5]
    · unfold f_X7_undo
      have e5 : (sI h1 41 5 (nI n)).1 41 6 = nI x := by rw [rI_k _ _ (by decide), e41]; exact m6
      rw [e41, m5, if_neg (by rw [L0, nI_eq (by omega) (by omega)]; omega), L1, pk_sub (show 1 ≤ n + 1 by omega), show n + 1 - 1 = n by omega, e5, L14, nI_add, pk_sub (show 1 ≤ x + 14 by omega), pk_rem (by omega) (by decide) (by decide), show x + 14 - 1 = x + 13 by omega, L0, k3, rI_k _ _ (by decide), rI_at]
    · have g : ∀ i, i ≠ 10 → i ≠ 11 → i ≠ 12 → i ≠ 31 → i ≠ 41 → i ≠ 43 → (sA (sI (sI h1 41 5 (nI n)) 41 6 (nI ((x + 13) % 14))) 43 nw).1 i = h.1 i := fun i z1 z2 z3 z4 z5 z6 => by
        rw [sA_ne _ _ z6, rI_ne _ _ z5, rI_ne _ _ z5, cO i z1 z2 z3 z4]
      have g41 : ∀ j, j ≠ 5 → j ≠ 6 → (sA (sI (sI h1 41 5 (nI n)) 41 6 (nI ((x + 13) % 14))) 43 nw).1 41 j = h.1 41 j := fun j z1 z2 => by
        rw [sA_ne _ _ (by decide), rI_k _ _ z2, rI_k _ _ z1, e41]
      have t9 : tr (sA (sI (sI h1 41 5 (nI n)) 41 6 (nI ((x + 13) % 14))) 43 nw) 9 = tr h1 9 := by
        unfold tr
        simp only [sA_ne _ _ (show (9 + 2 : Nat) ≠ 43 by decide), sA_ne _ _ (show (9 + 1 : Nat) ≠ 43 by decide), sA_ne _ _ (show (9 + 3 : Nat) ≠ 43 by decide), rI_ne _ _ (show (9 + 2 : Nat) ≠ 41 by decide), rI_ne _ _ (show (9 + 1 : Nat) ≠ 41 by decide), rI_ne _ _ (show (9 + 3 : Nat) ≠ 41 by decide)]
      refine ⟨C, ⟨hC, ?_, ?_, by rw [t9, ct]; exact hV, by rw [t9, ct, sA_at]; exact AG_cg hC hA nw1⟩, ?_, ?_, ?_, ?_, ?_, ?_⟩
      · rw [g 9 (by decide) (by decide) (by decide) (by decide) (by decide) (by decide)]; exact hW.2.1
      · rw [g41 13 (by decide) (by decide)]; exact hW.2.2.1
      · refine RlS_c hS ?_ ?_ ?_ ?_ ?_ ?_ ?_ ?_
        · rw [g 6 (by decide) (by decide) (by decide) (by decide) (by decide) (by decide)]
        · rw [g 6 (by decide) (by decide) (by decide) (by decide) (by decide) (by decide)]
        · exact g41 _ (by decide) (by decide)
        · exact g41 _ (by decide) (by decide)
        all_goals exact g _ (by decide) (by decide) (by decide) (by decide) (by decide) (by decide)
      · refine RlT_c hT ?_ ?_ ?_ ?_
        · rw [g 1 (by decide) (by decide) (by decide) (by decide) (by decide) (by decide)]
        · exact g41 _ (by decide) (by decide)
        all_goals exact g _ (by decide) (by decide) (by decide) (by decide) (by decide) (by decide)
      · refine RlG_c hG ?_ ?_ ?_ ?_ ?_ ?_ ?_ ?_ ?_ ?_
        · rw [g 36 (by decide) (by decide) (by decide) (by decide) (by decide) (by decide)]
        · exact g41 _ (by decide) (by decide)
        all_goals exact g _ (by decide) (by decide) (by decide) (by decide) (by decide) (by decide)
      · refine RlK_c hK ?_ ?_ ?_ ?_ ?_ ?_ ?_ ?_ ?_ ?_ ?_
        all_goals exact g _ (by decide) (by decide) (by decide) (by decide) (by decide) (by decide)
      · refine ⟨n, f, (x + 13) % 14, by omega, hf, hq, ?_, ?_, ?_, ?_, ?_⟩
        · rw [sA_ne _ _ (by decide), rI_ne _ _ (by decide), rI_ne _ _ (by decide)]; exact c5
        · rw [sA_ne _ _ (by decide), rI_ne _ _ (by decide), rI_ne _ _ (by decide)]; exact c4
        · rw [sA_ne _ _ (by decide), rI_k _ _ (by decide), rI_at]
        · rw [sA_ne _ _ (by decide), rI_at]
        · rw [t9, ct, g 32 (by decide) (by decide) (by decide) (by decide) (by decide) (by decide), g 33 (by decide) (by decide) (by decide) (by decide) (by decide) (by decide), g 34 (by decide) (by decide) (by decide) (by decide) (by decide) (by decide), g 35 (by decide) (by decide) (by decide) (by decide) (by decide) (by decide), g 45 (by decide) (by decide) (by decide) (by decide) (by decide) (by decide)]
          exact hH
      · show h1.2 0 = h1.2 41
        rw [c2]; exact hZ
/-! slots -/
theorem cpy_lt {f g : Nat → Int32} {n k : Nat} (h : k < n) : va_cpy f g 0 0 n k = f k := by simp [va_cpy, h]
def tkF (h : Hp) (a b : Nat) : Hp := sI (sA (sA (sA h (a + 1) (va_cpy (h.1 (b + 1)) (h.1 (a + 1)) 0 0 16)) (a + 2) (va_cpy (h.1 (b + 2)) (h.1 (a + 2)) 0 0 4)) (a + 3) (va_cpy (h.1 (b + 3)) (h.1 (a + 3)) 0 0 12)) a 5 (h.1 b 5)
def okT (a b : Nat) : Bool := decide (rF a 1 = a + 1 ∧ rF a 2 = a + 2 ∧ rF a 3 = a + 3 ∧ rF b 1 = b + 1 ∧ rF b 2 = b + 2 ∧ rF b 3 = b + 3) && decide (lN_ (a + 1) = 16 ∧ lN_ (a + 2) = 4 ∧ lN_ (a + 3) = 12 ∧ lN_ (b + 1) = 16 ∧ lN_ (b + 2) = 4 ∧ lN_ (b + 3) = 12) && decide (b + 2 ≠ a + 1 ∧ b + 3 ≠ a + 1 ∧ b + 3 ≠ a + 2 ∧ b ≠ a + 1 ∧ b ≠ a + 2 ∧ b ≠ a + 3)
theorem p_take {h : Hp} {a b : Nat} (ok : okT a b = true) : f_X4_takeFrom a b h = some (tkF h a b) := by
  unfold okT at ok
  simp only [Bool.and_eq_true, decide_eq_true_eq] at ok
  obtain ⟨⟨⟨r1, r2, r3, r4, r5, r6⟩, l1, l2, l3, l4, l5, l6⟩, n1, n2, n3, n4, n5, n6⟩ := ok
  have c16 : (16 : Int32).toNatClampNeg = 16 := rfl
  have c4 : (4 : Int32).toNatClampNeg = 4 := rfl
  have c12 : (12 : Int32).toNatClampNeg = 12 := rfl
  unfold f_X4_takeFrom tkF
  rw [c16, c4, c12, r1, r2, r3, r4, r5, r6, l1, l2, l3, l4, l5, l6, if_pos (by decide), if_pos (by decide), if_pos (by decide)]
  simp only [sA_ne _ _ n1, sA_ne _ _ n2, sA_ne _ _ n3, sA_ne _ _ n4, sA_ne _ _ n5, sA_ne _ _ n6, sA_ne _ _ (show a + 2 ≠ a + 1 by omega), sA_ne _ _ (show a + 3 ≠ a + 1 by omega), sA_ne _ _ (show a + 3 ≠ a + 2 by omega)]
theorem tk_O {h : Hp} {a b i : Nat} (h0 : i ≠ a) (h1 : i ≠ a + 1) (h2 : i ≠ a + 2) (h3 : i ≠ a + 3) : (tkF h a b).1 i = h.1 i := by
  unfold tkF
  rw [rI_ne _ _ h0, sA_ne _ _ h3, sA_ne _ _ h2, sA_ne _ _ h1]
theorem tk_tr (h : Hp) (a b : Nat) : tr (tkF h a b) a = (va_cpy (h.1 (b + 2)) (h.1 (a + 2)) 0 0 4, va_cpy (h.1 (b + 1)) (h.1 (a + 1)) 0 0 16, va_cpy (h.1 (b + 3)) (h.1 (a + 3)) 0 0 12) := by
  unfold tr tkF
  rw [rI_ne _ _ (by omega), rI_ne _ _ (by omega), rI_ne _ _ (by omega), sA_ne _ _ (show a + 2 ≠ a + 3 by omega), sA_at, sA_ne _ _ (show a + 1 ≠ a + 3 by omega), sA_ne _ _ (show a + 1 ≠ a + 2 by omega), sA_at, sA_at]
theorem tk_VL {h : Hp} {a b C : Nat} (hC : C ≤ 4) (H : VL C (tr h b)) : VL C (tr (tkF h a b) a) := by
  rw [tk_tr]
  refine ⟨fun i hi => ?_, fun c hc => ?_⟩
  · obtain ⟨v, hv, e⟩ := H.1 i hi
    exact ⟨v, hv, by show va_cpy _ _ _ _ _ _ = _; rw [cpy_lt (by omega)]; exact e⟩
  · obtain ⟨v, hv, e⟩ := H.2 c hc
    exact ⟨v, hv, by show va_cpy _ _ _ _ _ _ = _; rw [cpy_lt (by omega)]; exact e⟩
theorem tk_AG {h : Hp} {a b C : Nat} {row : Nat → Int32} (hC : C ≤ 4) (H : AG C (tr h b) row) : AG C (tr (tkF h a b) a) row := by
  rw [tk_tr]
  refine ⟨fun i hi => ?_, fun i hi => ?_, fun i hi => ?_⟩
  · show va_cpy _ _ _ _ _ _ = _; rw [cpy_lt (by omega)]; exact H.1 i hi
  · show va_cpy _ _ _ _ _ _ = _; rw [cpy_lt (by omega)]; exact H.2.1 i hi
  · show va_cpy _ _ _ _ _ _ = _; rw [cpy_lt (by omega)]; exact H.2.2 i hi
theorem tk_5 (h : Hp) (a b : Nat) : (tkF h a b).1 a 5 = h.1 b 5 := by unfold tkF; rw [rI_at]
theorem q_keepL {h : Hp} {s : Nat} (hs : s < 2) : ∀ (d n i : Nat) (kf : Nat → Int32), d < n → i + d = 32 → (∀ j, j < i → kf (32 * s + j) = h.1 43 j) → (∀ y j, y < 2 → y ≠ s → j < 32 → kf (32 * y + j) = h.1 46 (32 * y + j)) →
    ∃ kf', (∀ j, j < 32 → kf' (32 * s + j) = h.1 43 j) ∧ (∀ y j, y < 2 → y ≠ s → j < 32 → kf' (32 * y + j) = h.1 46 (32 * y + j)) ∧ f_X7_keep_21 41 (nI s) n (nI i) (sA h 46 kf) = bnd (f_X7_manyForms 41 (sA h 46 kf')) (fun r q => some (r, q)) := by
  intro d
  induction d with
  | zero =>
    intro n i kf hn hd h1 h2
    obtain ⟨n, rfl⟩ : ∃ m, n = m + 1 := ⟨n - 1, by omega⟩
    refine ⟨kf, fun j hj => h1 j (by omega), h2, ?_⟩
    rw [s_X7_keep_21]
    unfold g_X7_keep_21
    rw [L32, if_pos (by rw [nI_leI (by omega) (by omega)]; omega)]
  | succ d ih =>
    intro n i kf hn hd h1 h2
    obtain ⟨n, rfl⟩ : ∃ m, n = m + 1 := ⟨n - 1, by omega⟩
    obtain ⟨kf', k1, k2, k3⟩ := ih n (i + 1) (upd kf (32 * s + i) (h.1 43 i)) (by omega) (by omega) (fun j hj => by
      by_cases q : j = i
      · subst q; rw [upd_at]
      · rw [upd_ne _ _ (by omega)]; exact h1 j (by omega)) (fun y j hy hyx hj => by
      rw [upd_ne _ _ (by omega)]; exact h2 y j hy hyx hj)
    refine ⟨kf', k1, k2, ?_⟩
    rw [← k3, s_X7_keep_21]
    unfold g_X7_keep_21
    rw [L32, if_neg (by rw [nI_leI (by omega) (by omega)]; omega), R41_2, R41_7, N_43, N_46, if_pos (okI_n (by omega) (by decide)), pk_mul, nI_add, if_pos (okI_n (by omega) (by decide)), nI_clamp (by omega), nI_clamp (by omega), sI_sA, sA_ne _ _ (show (43 : Nat) ≠ 46 by decide), L1, nI_add]
theorem q_againL {h : Hp} {s : Nat} (hs : s < 2) : ∀ (d n i : Nat) (nw : Nat → Int32), d < n → i + d = 32 → (∀ j, j < i → nw j = h.1 46 (32 * s + j)) →
    ∃ nw', (∀ j, j < 32 → nw' j = h.1 46 (32 * s + j)) ∧ f_X7_again_26 41 (nI s) n (nI i) (sA h 43 nw) = bnd (f_X7_manyForms 41 (sI (sA h 43 nw') 41 5 0)) (fun r q => some (r, q)) := by
  intro d
  induction d with
  | zero =>
    intro n i nw hn hd h1
    obtain ⟨n, rfl⟩ : ∃ m, n = m + 1 := ⟨n - 1, by omega⟩
    refine ⟨nw, fun j hj => h1 j (by omega), ?_⟩
    rw [s_X7_again_26]
    unfold g_X7_again_26
    rw [L32, if_pos (by rw [nI_leI (by omega) (by omega)]; omega)]
  | succ d ih =>
    intro n i nw hn hd h1
    obtain ⟨n, rfl⟩ : ∃ m, n = m + 1 := ⟨n - 1, by omega⟩
    obtain ⟨nw', k1, k3⟩ := ih n (i + 1) (upd nw i (h.1 46 (32 * s + i))) (by omega) (by omega) (fun j hj => by
      by_cases q : j = i
      · subst q; rw [upd_at]
      · rw [upd_ne _ _ q]; exact h1 j (by omega))
    refine ⟨nw', k1, ?_⟩
    rw [← k3, s_X7_again_26]
    unfold g_X7_again_26
    rw [L32, if_neg (by rw [nI_leI (by omega) (by omega)]; omega), R41_2, R41_7, N_43, N_46, pk_mul, nI_add, if_pos (okI_n (by omega) (by decide)), if_pos (okI_n (by omega) (by decide)), nI_clamp (by omega), nI_clamp (by omega), sI_sA, sA_ne _ _ (show (46 : Nat) ≠ 43 by decide), L1, nI_add]
