/-! fault and list -/
theorem rd_text {h : Hp} {n : Nat} (hn : n ≤ 60) (e1 : h.1 1 1 = nI n) : ∃ h1, f_X3_read 1 h = some h1 ∧ Sc h h1 ∧ ∀ q : Hp, q.1 41 1 = nI n → (∀ j, j < n → q.1 42 j = h.1 2 j) → ∃ q', f_X7_readText 41 q = some (h1.1 1 9, q') ∧ h1.1 1 10 = q'.1 41 21 ∧ Sc q q' ∧
    (h1.1 1 9 = -9 → (∀ i, i ≠ 41 → i ≠ 50 → i ≠ 51 → i ≠ 52 → q'.1 i = q.1 i) ∧ ∃ rc ec cc pc k g rts ens sgs, IV rc ec cc pc k g rts ens sgs ∧ ndB k g = false ∧ CT h1 rc ec cc pc k g rts ens sgs ∧ MT q' rc ec cc pc k g rts ens sgs) := by
  have eC : f_X3_read 1 h = f_X3_read_6 1 FU (nI 0) (sI (sI (sI (sI (sI (sI h 1 5 0) 1 6 0) 1 7 0) 1 8 0) 1 11 0) 1 12 0) := rfl
  have sC : Sc h (sI (sI (sI (sI (sI (sI h 1 5 0) 1 6 0) 1 7 0) 1 8 0) 1 11 0) 1 12 0) := Sc_tr (Sc_tr (Sc_tr (Sc_tr (Sc_tr (Sc_t _ _ (by decide)) (Sc_t _ _ (by decide))) (Sc_t _ _ (by decide))) (Sc_t _ _ (by decide))) (Sc_t _ _ (by decide))) (Sc_t _ _ (by decide))
  have hc : ∃ h', h' = (sI (sI (sI (sI (sI (sI h 1 5 0) 1 6 0) 1 7 0) 1 8 0) 1 11 0) 1 12 0) := ⟨_, rfl⟩
  obtain ⟨hC, hc⟩ := hc
  rw [← hc] at eC sC
  have T : TXc hC n (h.1 2) := TXc_s sC ⟨e1, fun j _ => rfl⟩
  have I : IV 0 0 0 0 0 0 (fun _ => 0) (fun _ => 0) (fun _ => 0) := by
    refine ⟨by decide, by decide, by decide, by decide, by decide, by decide, fun z => absurd z (by decide), fun z => absurd z (by decide), fun z => absurd z (by decide), fun z => absurd rfl z, fun j z => absurd z (by omega), fun j z => absurd z (by omega), fun j z => absurd z (by unfold nsG; simp)⟩
  have A : CT hC 0 0 0 0 0 0 (fun _ => 0) (fun _ => 0) (fun _ => 0) := by
    rw [hc]
    refine ⟨by simp [rI]; rfl, by simp [rI]; rfl, by simp [rI]; rfl, by simp [rI]; rfl, by simp [rI]; rfl, by simp [rI]; rfl, fun j z => absurd z (by omega), fun j z => absurd z (by omega), fun j z => absurd z (by unfold nsG; simp)⟩
  have run : ∀ q : Hp, q.1 41 1 = nI n → (∀ j, j < n → q.1 42 j = h.1 2 j) → ∃ h1 q', f_X3_read_6 1 FU (nI 0) hC = some h1 ∧ f_X7_readText 41 q = some (h1.1 1 9, q') ∧ h1.1 1 10 = q'.1 41 21 ∧ Sc hC h1 ∧ Sc q q' ∧
    (h1.1 1 9 = -9 → (∀ i, i ≠ 41 → i ≠ 50 → i ≠ 51 → i ≠ 52 → q'.1 i = q.1 i) ∧ ∃ rc ec cc pc k g rts ens sgs, IV rc ec cc pc k g rts ens sgs ∧ ndB k g = false ∧ CT h1 rc ec cc pc k g rts ens sgs ∧ MT q' rc ec cc pc k g rts ens sgs) := by
    intro q q1 q2
    obtain ⟨qC, hq⟩ : ∃ qC, qC = (sI (sI (sI (sI (sI q 41 17 0) 41 18 0) 41 19 0) 41 20 0) 41 21 (-9)) := ⟨_, rfl⟩
    have sq : Sc q qC := by rw [hq]; exact Sc_tr (Sc_tr (Sc_tr (Sc_tr (Sc_m _ _ (by decide)) (Sc_m _ _ (by decide))) (Sc_m _ _ (by decide))) (Sc_m _ _ (by decide))) (Sc_m _ _ (by decide))
    have qo : ∀ i, i ≠ 41 → qC.1 i = q.1 i := fun i z => by rw [hq, rI_ne _ _ z, rI_ne _ _ z, rI_ne _ _ z, rI_ne _ _ z, rI_ne _ _ z]
    have U : TXm qC n (h.1 2) := ⟨by rw [sq.2.2.2 1 (by decide)]; exact q1, fun j hj => by rw [qo 42 (by decide)]; exact q2 j hj, by rw [hq, rI_at]⟩
    have B : MT qC 0 0 0 0 0 0 (fun _ => 0) (fun _ => 0) (fun _ => 0) := by
      rw [hq]
      refine ⟨by simp [rI]; rfl, by simp [rI]; rfl, by simp [rI]; rfl, by simp [rI]; rfl, fun j z => absurd z (by omega), fun j z => absurd z (by omega), fun j z => absurd z (by unfold nsG; simp)⟩
    obtain ⟨v, w, h', q', y1, y2, y3, y4, y5, y6, y7, y8⟩ := rd_both hn n 0 FU FU 0 0 0 0 0 0 _ _ _ hC qC (by unfold FU; omega) (by unfold FU; omega) (by omega) (by omega) I T U A B
    refine ⟨h', q', y1, ?_, by rw [y4, y5], y6, Sc_tr sq y7, fun z => ?_⟩
    · unfold f_X7_readText
      rw [← hq, y3]
      exact y2
    · obtain ⟨z1, z2⟩ := y8 (by rw [← y3]; exact z)
      exact ⟨fun i a b c d => by rw [z1.2.1 i a b c d, qo i a], z2⟩
  obtain ⟨h1, -, y1, -, -, y4, -, -⟩ := run (sA (sI h 41 1 (nI n)) 42 (h.1 2)) (by rw [sA_ne _ _ (by decide), rI_at]) (fun j _ => by rw [sA_at])
  refine ⟨h1, by rw [eC]; exact y1, Sc_tr sC y4, fun q q1 q2 => ?_⟩
  obtain ⟨h1', q', z1, z2, z3, z4, z5, z6⟩ := run q q1 q2
  rw [y1] at z1
  cases z1
  exact ⟨q', z2, z3, z5, z6⟩
theorem st_fault {h : Hp} (H : Rel h) (x : Int32) : St (f_X6_fault 0 x) (f_X7_fault 41 x) h := by
  have H0 := H
  obtain ⟨C, hW, hS, ⟨n, hn, t1, t2, t3⟩, hG, hK, hD, hZ⟩ := H
  obtain ⟨h1, r1, r2, r3⟩ := rd_text hn t1
  obtain ⟨q', y1, y2, y3, -⟩ := r3 h1 (by rw [r2.2.2.2 1 (by decide)]; exact t2) (fun j hj => by rw [r2.2.1 42 (by decide) (by decide) (by decide)]; exact (t3 j hj).symm)
  by_cases q : inI x 0 1 = true
  · obtain ⟨s, hs, rfl⟩ := slot_of q
    rcases (show s = 0 ∨ s = 1 by omega) with rfl | rfl
    · refine ⟨h1.1 1 9, h1, q', ?_, ?_, Rel_Sc H0 (Sc_tr r2 y3)⟩
      · unfold f_X6_fault g_X6_fault_12
        rw [R0_0, r1, bind_s, if_pos (show nI 0 = (0 : Int32) from rfl), if_pos (show nI 0 = (0 : Int32) from rfl)]
      · unfold f_X7_fault
        rw [p_in32 _ _ _ 0 1 rfl rfl, bnd_s, ifb, if_pos q, y1, bnd_s, if_pos (show nI 0 = (0 : Int32) from rfl)]
    · refine ⟨h1.1 1 10, h1, q', ?_, ?_, Rel_Sc H0 (Sc_tr r2 y3)⟩
      · unfold f_X6_fault g_X6_fault_12
        rw [R0_0, r1, bind_s, if_neg (show ¬ nI 1 = (0 : Int32) by decide), if_pos (show nI 1 = (1 : Int32) from rfl), if_neg (show ¬ nI 1 = (0 : Int32) by decide)]
      · unfold f_X7_fault
        rw [p_in32 _ _ _ 0 1 rfl rfl, bnd_s, ifb, if_pos q, y1, bnd_s, if_neg (show ¬ nI 1 = (0 : Int32) by decide), y2]
  · refine St_ro H0 (r := -2) ?_ ?_
    · unfold f_X6_fault
      rw [if_neg (fun z => q (by rw [z]; rfl)), if_neg (fun z => q (by rw [z]; rfl))]
    · unfold f_X7_fault
      rw [p_in32 _ _ _ 0 1 rfl rfl, bnd_s, ifb, if_neg q]
theorem p_takeFrom (h : Hp) : f_X2_takeFrom 6 1 h = some (sI (sI (sA (sA h 7 (va_cpy (h.1 3) (h.1 7) 0 0 4)) 8 (va_cpy (h.1 4) (h.1 8) 0 0 3)) 6 2 (h.1 1 5)) 6 3 (h.1 1 6)) := by
  unfold f_X2_takeFrom
  rw [R6_0, R6_1, R1_2, R1_3, N_3, N_4, N_7, N_8, if_pos (by decide), if_pos (by decide)]
  rfl
theorem p_obn {a : Nat} (ha : a = 9 ∨ a = 14) (h : Hp) : ∃ f, (∀ j, j < 4 → f j = nI j) ∧ f_X4_orderByNumber a h = some (sA h (a + 2) f) := by
  have e2 : rF a 2 = a + 2 := by rcases ha with rfl | rfl <;> rfl
  have e3 : lN_ (a + 2) = 4 := by rcases ha with rfl | rfl <;> rfl
  have L : ∀ (d n i : Nat) (f : Nat → Int32), d < n → i + d = 4 → (∀ j, j < i → f j = nI j) → ∃ f', (∀ j, j < 4 → f' j = nI j) ∧ f_X4_orderByNumber_2 a n (nI i) (sA h (a + 2) f) = some (sA h (a + 2) f') := by
    intro d
    induction d with
    | zero =>
      intro n i f hn hd h1
      obtain ⟨n, rfl⟩ : ∃ m, n = m + 1 := ⟨n - 1, by omega⟩
      refine ⟨f, fun j hj => h1 j (by omega), ?_⟩
      rw [s_X4_orderByNumber_2]
      unfold g_X4_orderByNumber_2
      rw [L4, if_pos (by rw [nI_leI (by omega) (by omega)]; omega)]
    | succ d ih =>
      intro n i f hn hd h1
      obtain ⟨n, rfl⟩ : ∃ m, n = m + 1 := ⟨n - 1, by omega⟩
      obtain ⟨f', k1, k3⟩ := ih n (i + 1) (upd f i (nI i)) (by omega) (by omega) (fun j hj => by
        by_cases q : j = i
        · subst q; rw [upd_at]
        · rw [upd_ne _ _ q]; exact h1 j (by omega))
      refine ⟨f', k1, ?_⟩
      rw [← k3, s_X4_orderByNumber_2]
      unfold g_X4_orderByNumber_2
      rw [L4, if_neg (by rw [nI_leI (by omega) (by omega)]; omega), e2, e3, if_pos (okI_n (by omega) (by decide)), nI_clamp (by omega), sI_sA, L1, nI_add]
  obtain ⟨f', k1, k2⟩ := L 4 FU 0 (h.1 (a + 2)) (by decide) rfl (fun j hj => absurd hj (by omega))
  rw [sA_self] at k2
  exact ⟨f', k1, k2⟩
theorem p_bw29 (h : Hp) : ∃ f, (∀ j, j < 12 → f j = -9) ∧ f_X4_beginWith_29 9 1 FU 0 h = some (sA h 12 f) := by
  have L : ∀ (d n i : Nat) (f : Nat → Int32), d < n → i + d = 12 → (∀ j, j < i → f j = -9) → ∃ f', (∀ j, j < 12 → f' j = -9) ∧ f_X4_beginWith_29 9 1 n (nI i) (sA h 12 f) = some (sA h 12 f') := by
    intro d
    induction d with
    | zero =>
      intro n i f hn hd h1
      obtain ⟨n, rfl⟩ : ∃ m, n = m + 1 := ⟨n - 1, by omega⟩
      refine ⟨f, fun j hj => h1 j (by omega), ?_⟩
      rw [s_X4_beginWith_29]
      unfold g_X4_beginWith_29
      rw [L12, if_pos (by rw [nI_leI (by omega) (by omega)]; omega)]
    | succ d ih =>
      intro n i f hn hd h1
      obtain ⟨n, rfl⟩ : ∃ m, n = m + 1 := ⟨n - 1, by omega⟩
      obtain ⟨f', k1, k3⟩ := ih n (i + 1) (upd f i (-9)) (by omega) (by omega) (fun j hj => by
        by_cases q : j = i
        · subst q; rw [upd_at]
        · rw [upd_ne _ _ q]; exact h1 j (by omega))
      refine ⟨f', k1, ?_⟩
      rw [← k3, s_X4_beginWith_29]
      unfold g_X4_beginWith_29
      rw [L12, if_neg (by rw [nI_leI (by omega) (by omega)]; omega), R9_3, N_12, if_pos (okI_n (by omega) (by decide)), nI_clamp (by omega), sI_sA, L1, nI_add]
  obtain ⟨f', k1, k2⟩ := L 12 FU 0 (h.1 12) (by decide) rfl (fun j hj => absurd hj (by omega))
  rw [sA_self] at k2
  exact ⟨f', k1, k2⟩
theorem p_bw (h : Hp) : ∃ o f, (∀ j, j < 4 → o j = nI j) ∧ (∀ j, j < 12 → f j = -9) ∧ f_X4_beginWith 9 1 h = some (sA (sA (sI (sA h 10 (va_cpy (h.1 5) (h.1 10) 0 0 16)) 9 5 (h.1 1 7)) 11 o) 12 f) := by
  obtain ⟨o, o1, o2⟩ := p_obn (Or.inl rfl) (sI (sA h 10 (va_cpy (h.1 5) (h.1 10) 0 0 16)) 9 5 (h.1 1 7))
  obtain ⟨f, f1, f2⟩ := p_bw29 (sA (sI (sA h 10 (va_cpy (h.1 5) (h.1 10) 0 0 16)) 9 5 (h.1 1 7)) 11 o)
  refine ⟨o, f, o1, f1, ?_⟩
  rw [← f2]
  unfold f_X4_beginWith
  rw [R1_4, R9_1, N_5, N_10, if_pos (by decide)]
  show (f_X4_orderByNumber 9 (sI (sA h 10 (va_cpy (h.1 5) (h.1 10) 0 0 16)) 9 5 (h.1 1 7))).bind _ = _
  rw [o2, bind_s]
theorem q_l38 {h : Hp} {R : Nat} (hR : R ≤ 4) (e : h.1 41 11 = nI R) : ∀ (d n i : Nat) (f : Nat → Int32), d < n → i + d = R → (∀ j, j < i → f j = h.1 50 j) → ∃ f', (∀ j, j < R → f' j = h.1 50 j) ∧ f_X7_list_38 41 n (nI i) (sA h 48 f) = f_X7_list_66 41 FU 0 (sA h 48 f') := by
  intro d
  induction d with
  | zero =>
    intro n i f hn hd h1
    obtain ⟨n, rfl⟩ : ∃ m, n = m + 1 := ⟨n - 1, by omega⟩
    refine ⟨f, fun j hj => h1 j (by omega), ?_⟩
    rw [s_X7_list_38]
    unfold g_X7_list_38
    rw [sA_ne _ _ (by decide), e, if_pos (by rw [nI_leI (by omega) (by omega)]; omega)]
  | succ d ih =>
    intro n i f hn hd h1
    obtain ⟨n, rfl⟩ : ∃ m, n = m + 1 := ⟨n - 1, by omega⟩
    obtain ⟨f', k1, k3⟩ := ih n (i + 1) (upd f i (h.1 50 i)) (by omega) (by omega) (fun j hj => by
      by_cases q : j = i
      · subst q; rw [upd_at]
      · rw [upd_ne _ _ q]; exact h1 j (by omega))
    refine ⟨f', k1, ?_⟩
    rw [← k3, s_X7_list_38]
    unfold g_X7_list_38
    rw [sA_ne _ _ (show (41 : Nat) ≠ 48 by decide), e, if_neg (by rw [nI_leI (by omega) (by omega)]; omega), R41_14, R41_9, N_50, N_48, if_pos (okI_n (by omega) (by decide)), if_pos (okI_n (by omega) (by decide)), nI_clamp (by omega), sI_sA, sA_ne _ _ (show (50 : Nat) ≠ 48 by decide), L1, nI_add]
theorem q_l66 {h : Hp} {E : Nat} (hE : E ≤ 3) (e : h.1 41 12 = nI E) : ∀ (d n i : Nat) (f : Nat → Int32), d < n → i + d = E → (∀ j, j < i → f j = h.1 51 j) → ∃ f', (∀ j, j < E → f' j = h.1 51 j) ∧ f_X7_list_66 41 n (nI i) (sA h 49 f) = f_X7_list_94 41 FU 0 (sA h 49 f') := by
  intro d
  induction d with
  | zero =>
    intro n i f hn hd h1
    obtain ⟨n, rfl⟩ : ∃ m, n = m + 1 := ⟨n - 1, by omega⟩
    refine ⟨f, fun j hj => h1 j (by omega), ?_⟩
    rw [s_X7_list_66]
    unfold g_X7_list_66
    rw [sA_ne _ _ (by decide), e, if_pos (by rw [nI_leI (by omega) (by omega)]; omega)]
  | succ d ih =>
    intro n i f hn hd h1
    obtain ⟨n, rfl⟩ : ∃ m, n = m + 1 := ⟨n - 1, by omega⟩
    obtain ⟨f', k1, k3⟩ := ih n (i + 1) (upd f i (h.1 51 i)) (by omega) (by omega) (fun j hj => by
      by_cases q : j = i
      · subst q; rw [upd_at]
      · rw [upd_ne _ _ q]; exact h1 j (by omega))
    refine ⟨f', k1, ?_⟩
    rw [← k3, s_X7_list_66]
    unfold g_X7_list_66
    rw [sA_ne _ _ (show (41 : Nat) ≠ 49 by decide), e, if_neg (by rw [nI_leI (by omega) (by omega)]; omega), R41_15, R41_10, N_51, N_49, if_pos (okI_n (by omega) (by decide)), if_pos (okI_n (by omega) (by decide)), nI_clamp (by omega), sI_sA, sA_ne _ _ (show (51 : Nat) ≠ 49 by decide), L1, nI_add]
theorem q_l94 {h : Hp} {C : Nat} (hC : C ≤ 4) (e : h.1 41 13 = nI C) : ∀ (d n i : Nat) (f : Nat → Int32), d < n → i + d = C → (∀ j, j < i → f j = nI j) → ∃ f', (∀ j, j < C → f' j = nI j) ∧ f_X7_list_94 41 n (nI i) (sA h 43 f) = f_X7_list_117 41 FU 0 (sA h 43 f') := by
  intro d
  induction d with
  | zero =>
    intro n i f hn hd h1
    obtain ⟨n, rfl⟩ : ∃ m, n = m + 1 := ⟨n - 1, by omega⟩
    refine ⟨f, fun j hj => h1 j (by omega), ?_⟩
    rw [s_X7_list_94]
    unfold g_X7_list_94
    rw [sA_ne _ _ (by decide), e, if_pos (by rw [nI_leI (by omega) (by omega)]; omega)]
  | succ d ih =>
    intro n i f hn hd h1
    obtain ⟨n, rfl⟩ : ∃ m, n = m + 1 := ⟨n - 1, by omega⟩
    obtain ⟨f', k1, k3⟩ := ih n (i + 1) (upd f i (nI i)) (by omega) (by omega) (fun j hj => by
      by_cases q : j = i
      · subst q; rw [upd_at]
      · rw [upd_ne _ _ q]; exact h1 j (by omega))
    refine ⟨f', k1, ?_⟩
    rw [← k3, s_X7_list_94]
    unfold g_X7_list_94
    rw [sA_ne _ _ (show (41 : Nat) ≠ 43 by decide), e, if_neg (by rw [nI_leI (by omega) (by omega)]; omega), R41_2, N_43, if_pos (okI_n (by omega) (by decide)), nI_clamp (by omega), sI_sA, L1, nI_add]
theorem q_ff (h : Hp) : ∀ (d n i : Nat) (f : Nat → Int32), d < n → 20 ≤ i → i + d = 32 → (∀ j, 20 ≤ j → j < i → f j = -9) → ∃ f', (∀ j, 20 ≤ j → j < 32 → f' j = -9) ∧ (∀ j, j < 20 → f' j = f j) ∧ f_X7_forgetForms_3 41 n (nI i) (sA h 43 f) = some (sA h 43 f') := by
  intro d
  induction d with
  | zero =>
    intro n i f hn hi hd h1
    obtain ⟨n, rfl⟩ : ∃ m, n = m + 1 := ⟨n - 1, by omega⟩
    refine ⟨f, fun j hj hj2 => h1 j hj (by omega), fun _ _ => rfl, ?_⟩
    rw [s_X7_forgetForms_3]
    unfold g_X7_forgetForms_3
    rw [L32, if_pos (by rw [nI_leI (by omega) (by omega)]; omega)]
  | succ d ih =>
    intro n i f hn hi hd h1
    obtain ⟨n, rfl⟩ : ∃ m, n = m + 1 := ⟨n - 1, by omega⟩
    obtain ⟨f', k1, k2, k3⟩ := ih n (i + 1) (upd f i (-9)) (by omega) (by omega) (by omega) (fun j hj hj2 => by
      by_cases q : j = i
      · subst q; rw [upd_at]
      · rw [upd_ne _ _ q]; exact h1 j hj (by omega))
    refine ⟨f', k1, fun j hj => by rw [k2 j hj, upd_ne _ _ (by omega)], ?_⟩
    rw [← k3, s_X7_forgetForms_3]
    unfold g_X7_forgetForms_3
    rw [L32, if_neg (by rw [nI_leI (by omega) (by omega)]; omega), R41_2, N_43, if_pos (okI_n (by omega) (by decide)), nI_clamp (by omega), sI_sA, L1, nI_add]
theorem q_l117 {h : Hp} {C : Nat} (hC : C ≤ 4) (e : h.1 41 13 = nI C) : ∀ (d n i : Nat) (f : Nat → Int32), d < n → i + d = 4 * C → (∀ j, j < i → f (4 + j) = h.1 52 j) → ∃ f', (∀ j, j < 4 * C → f' (4 + j) = h.1 52 j) ∧ (∀ j, j < 4 → f' j = f j) ∧ (∀ j, 20 ≤ j → j < 32 → f' j = -9) ∧ f_X7_list_117 41 n (nI i) (sA h 43 f) = some (h.1 41 20, sI (sI (sI (sA h 43 f') 41 5 0) 47 0 0) 47 1 0) := by
  intro d
  induction d with
  | zero =>
    intro n i f hn hd h1
    obtain ⟨n, rfl⟩ : ∃ m, n = m + 1 := ⟨n - 1, by omega⟩
    obtain ⟨f', k1, k2, k3⟩ := q_ff h 12 FU 20 f (by decide) (by decide) rfl (fun j a b => absurd b (by omega))
    refine ⟨f', fun j hj => by rw [k2 _ (by omega), h1 j (by omega)], fun j hj => k2 j (by omega), k1, ?_⟩
    rw [s_X7_list_117]
    unfold g_X7_list_117 f_X7_forgetForms
    rw [sA_ne _ _ (show (41 : Nat) ≠ 43 by decide), e, L4, pk_mul, if_pos (by rw [nI_leI (by omega) (by omega)]; omega), L20, k3, bind_s, R41_8, N_47, if_pos (by decide), if_pos (by decide)]
    rfl
  | succ d ih =>
    intro n i f hn hd h1
    obtain ⟨n, rfl⟩ : ∃ m, n = m + 1 := ⟨n - 1, by omega⟩
    obtain ⟨f', k1, k2, k4, k3⟩ := ih n (i + 1) (upd f (4 + i) (h.1 52 i)) (by omega) (by omega) (fun j hj => by
      by_cases q : j = i
      · subst q; rw [upd_at]
      · rw [upd_ne _ _ (by omega)]; exact h1 j (by omega))
    refine ⟨f', k1, fun j hj => by rw [k2 j hj, upd_ne _ _ (by omega)], k4, ?_⟩
    rw [← k3, s_X7_list_117]
    unfold g_X7_list_117
    rw [sA_ne _ _ (show (41 : Nat) ≠ 43 by decide), e, L4, pk_mul, if_neg (by rw [nI_leI (by omega) (by omega)]; omega), R41_2, R41_16, N_52, N_43, if_pos (okI_n (by omega) (by decide)), nI_add, if_pos (okI_n (by omega) (by decide)), nI_clamp (by omega), nI_clamp (by omega), sI_sA, sA_ne _ _ (show (52 : Nat) ≠ 43 by decide), L1, nI_add]
