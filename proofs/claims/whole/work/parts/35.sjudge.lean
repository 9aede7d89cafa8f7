theorem ten_ne : ∀ e, e < 5 → ¬ lN (10000 ^ e) = 0 := by decide +kernel
theorem ten_lt : ∀ e, e < 5 → 0 < 10000 ^ e ∧ 10000 ^ e < 2 ^ 63 := by decide +kernel
theorem j_loop {n m C R E : Nat} {rt en : Nat → Nat} (hn : n ≤ 4) (hm : m < 2 ^ 63) : ∀ (d F F' i : Nat) (h q : Hp), d < F → d < F' → i + d = n → JR h q C R E rt en → ∃ r h' q', f_X6_judge_43 0 (nI n) (lN m) F (nI i) h = some (r, h') ∧ f_X7_judge_36 41 (nI n) (lN m) F' (nI i) q = some (r, q') ∧ Sc h h' ∧ Sc q q' := by
  intro d
  induction d with
  | zero =>
    intro F F' i h q hF hF' hd J
    obtain ⟨F, rfl⟩ : ∃ m, F = m + 1 := ⟨F - 1, by omega⟩
    obtain ⟨F', rfl⟩ : ∃ m, F' = m + 1 := ⟨F' - 1, by omega⟩
    rw [s_X6_judge_43, s_X7_judge_36]
    unfold g_X6_judge_43 g_X7_judge_36
    rw [if_pos (by rw [nI_leI (by omega) (by omega)]; omega), if_pos (by rw [nI_leI (by omega) (by omega)]; omega)]
    exact ⟨-9, h, q, rfl, rfl, Sc_rf h, Sc_rf q⟩
  | succ d ih =>
    intro F F' i h q hF hF' hd J
    obtain ⟨F, rfl⟩ : ∃ m, F = m + 1 := ⟨F - 1, by omega⟩
    obtain ⟨F', rfl⟩ : ∃ m, F' = m + 1 := ⟨F' - 1, by omega⟩
    obtain ⟨e, he⟩ : ∃ e, e = n - 1 - i := ⟨_, rfl⟩
    have e5 : e < 5 := by omega
    have ee : (nI n - 1) - nI i = nI e := by rw [L1, pk_sub (by omega), pk_sub (by omega), he]
    have hl : m / 10000 ^ e < 2 ^ 63 := Nat.lt_of_le_of_lt (Nat.div_le_self _ _) hm
    obtain ⟨v, hv⟩ : ∃ v, v = m / 10000 ^ e % 10000 := ⟨_, rfl⟩
    have hv4 : v < 10000 := by rw [hv]; exact Nat.mod_lt _ (by decide)
    have ev : ((lN (m / 10000 ^ e) - lN (m / 10000 ^ e) / (10000 : Int64) * (10000 : Int64))).toInt32 = nI v := by
      rw [show (10000 : Int64) = lN 10000 from rfl, pk_lRem hl (by decide) (by decide), lN_i, hv]
    have d1 : nI v / (1000 : Int32) = nI (v / 1000) := by rw [show (1000 : Int32) = nI 1000 from rfl, pk_div (by omega) (by decide) (by decide)]
    have d2 : nI v / (100 : Int32) = nI (v / 100) := by rw [L100, pk_div (by omega) (by decide) (by decide)]
    have d3 : nI v / (10 : Int32) = nI (v / 10) := by rw [L10, pk_div (by omega) (by decide) (by decide)]
    have r1 : ∀ w : Nat, w < 10000 → nI w - nI w / (10 : Int32) * (10 : Int32) = nI (w % 10) := fun w hw => by rw [L10, pk_rem (by omega) (by decide) (by decide)]
    obtain ⟨r, h1, q1, x1, x2, s1, s2, J1⟩ := j_step (k := v / 1000) (a := v / 100 % 10) (b := v / 10 % 10) (c := v % 10) J (by omega) (by omega) (by omega) (by omega)
    rw [s_X6_judge_43, s_X7_judge_36]
    unfold g_X6_judge_43 g_X7_judge_36
    rw [if_neg (by rw [nI_leI (by omega) (by omega)]; omega), if_neg (by rw [nI_leI (by omega) (by omega)]; omega), ee, p_wlf hm (by omega), bnd_s, p_tth (by omega), bnd_s, if_neg (ten_ne e e5), pk_lDiv hm (ten_lt e e5).1 (ten_lt e e5).2, ev, d1, d2, r1 _ (by omega), r1 _ hv4, d3, r1 _ (by omega), x1, x2, bnd_s, bnd_s]
    by_cases z : r = 0
    · rw [if_pos z, if_pos z]
      exact ⟨nI i, h1, q1, rfl, rfl, s1, s2⟩
    · rw [if_neg z, if_neg z, L1, nI_add]
      obtain ⟨r2, h2, q2, y1, y2, y3, y4⟩ := ih F F' (i + 1) h1 q1 (by omega) (by omega) (by omega) J1
      exact ⟨r2, h2, q2, y1, y2, Sc_tr s1 y3, Sc_tr s2 y4⟩
theorem l_of {a : Int64} (h : 0 ≤ a.toInt) : ∃ m : Nat, m < 2 ^ 63 ∧ a = lN m ∧ a.toInt = m := by
  have hu : a.toInt < 2 ^ 63 := Int64.toInt_lt a
  refine ⟨a.toInt.toNat, by omega, ?_, by omega⟩
  apply Int64.toInt_inj.mp
  have e : (lN a.toInt.toNat).toInt = (a.toInt.toNat : Int) := lg_ofNat_toInt (by omega)
  rw [e]
  omega
theorem st_judge {h : Hp} (H : Rel h) (x : Int32) (a : Int64) : St (f_X6_judge 0 x a) (f_X7_judge 41 x a) h := by
  have H0 := H
  obtain ⟨C, hW, ⟨R, E, rt, en, Z, N⟩, hT, hG, hK, hD, hZ⟩ := H
  have hC := hW.1
  have no : ∀ (r : Int32), f_X6_judge 0 x a h = some (-2, h) → f_X7_judge 41 x a h = some (-2, h) → St (f_X6_judge 0 x a) (f_X7_judge 41 x a) h := fun _ a b => St_ro H0 a b
  have c1 : (x < 1) = (x.toInt < 1) := by rw [Int32.lt_iff_toInt_lt]; rfl
  have c4 : (4 < x) = (4 < x.toInt) := by rw [Int32.lt_iff_toInt_lt]; rfl
  have cn : ((lg_cmp a (0 : Int64)) < 0) ↔ a.toInt < 0 := by
    unfold lg_cmp
    simp only [gt_iff_lt, Int64.lt_iff_toInt_lt, ← Int64.toInt_inj]
    have z : (0 : Int64).toInt = 0 := rfl
    rw [z]
    by_cases q1 : 0 < a.toInt
    · rw [if_pos q1]
      exact ⟨fun w => absurd w (by decide), fun w => by omega⟩
    · rw [if_neg q1]
      by_cases q2 : a.toInt = 0
      · rw [if_pos q2]
        exact ⟨fun w => absurd w (by decide), fun w => by omega⟩
      · rw [if_neg q2]
        exact ⟨fun w => by omega, fun w => by decide⟩
  by_cases q : inI x 1 4 = true
  · have q2 := of_decide_eq_true q
    obtain ⟨n, hn, rfl⟩ := nI_of (x := x) (fun z => by rw [Int32.lt_iff_toInt_lt] at z; have z2 : x.toInt < 0 := z; omega)
    rw [nI_toInt hn] at q2
    have hn4 : n ≤ 4 := by omega
    have l1 : ¬ nI n < 1 := by rw [L1, nI_ltI (by omega) (by omega)]; omega
    have l4 : ¬ 4 < nI n := by rw [L4, nI_ltI (by omega) (by omega)]; omega
    have t5 := ten_lt n (by omega)
    have eM : f_X7_judge 41 (nI n) a h = bnd (f_X7_in a (0 : Int64) (lN (10000 ^ n) - 1) h) (fun r19 h18 => (if r19 = 0 then (some ((-2 : Int32), h18)) else ((f_X7_layTrial 41 h18).bind (fun h22 => f_X7_judge_36 41 (nI n) a FU (0 : Int32) h22)))) := by
      unfold f_X7_judge
      rw [p_in32 _ _ _ 1 4 rfl rfl, bnd_s, ifb, if_pos q, p_tth hn4, bnd_s]
    have eL : (lN (10000 ^ n) - 1).toInt = (10000 ^ n : Nat) - (1 : Int) := by
      rw [show (1 : Int64) = lN 1 from rfl, lN_sub (by omega)]
      have : (lN (10000 ^ n - 1)).toInt = ((10000 ^ n - 1 : Nat) : Int) := lg_ofNat_toInt (by omega)
      rw [this]
      omega
    by_cases q0 : a.toInt < 0
    · refine no 0 ?_ ?_
      · unfold f_X6_judge
        rw [if_neg l1, if_neg l4, if_pos (cn.mpr q0)]
      · rw [eM, p_in, bnd_s, ifb, if_neg (fun z => by have := of_decide_eq_true z; have e : (0 : Int64).toInt = 0 := rfl; omega)]
    · obtain ⟨m, hm, rfl, em⟩ := l_of (a := a) (by omega)
      have hdl : m / 10000 ^ n < 2 ^ 63 := Nat.lt_of_le_of_lt (Nat.div_le_self _ _) hm
      have cz : (lg_cmp (lN (m / 10000 ^ n)) (0 : Int64) = 0) ↔ m < 10000 ^ n := by
        have e2 : (lN (m / 10000 ^ n)).toInt = ((m / 10000 ^ n : Nat) : Int) := lg_ofNat_toInt hdl
        unfold lg_cmp
        simp only [gt_iff_lt, Int64.lt_iff_toInt_lt, ← Int64.toInt_inj]
        have z : (0 : Int64).toInt = 0 := rfl
        rw [z, e2]
        have dz : m / 10000 ^ n = 0 ↔ m < 10000 ^ n := Nat.div_eq_zero_iff_lt t5.1
        by_cases q1 : (0 : Int) < ((m / 10000 ^ n : Nat) : Int)
        · rw [if_pos q1]
          exact ⟨fun w => absurd w (by decide), fun w => by have := dz.2 w; omega⟩
        · rw [if_neg q1]
          by_cases q2 : ((m / 10000 ^ n : Nat) : Int) = 0
          · rw [if_pos q2]
            exact ⟨fun _ => dz.1 (by omega), fun _ => rfl⟩
          · rw [if_neg q2]
            exact ⟨fun w => absurd w (by decide), fun w => by omega⟩
      have eC : f_X6_judge 0 (nI n) (lN m) h = if m < 10000 ^ n then f_X6_judge_43 0 (nI n) (lN m) FU 0 (tkF h 14 9) else some (-2, h) := by
        unfold f_X6_judge
        rw [if_neg l1, if_neg l4, if_neg (fun z => q0 (cn.mp z)), p_wlf hm hn4, bnd_s, R0_3, R0_2, p_take (show okT 14 9 = true by decide), bind_s]
        by_cases w : m < 10000 ^ n
        · rw [if_pos w, if_pos (cz.mpr w)]
        · rw [if_neg w, if_neg (fun z => w (cz.mp z))]
      have eI : f_X7_in (lN m) (0 : Int64) (lN (10000 ^ n) - 1) h = some (b01 (decide (m < 10000 ^ n)), h) := by
        rw [p_in, em, eL]
        congr 3
        apply decide_eq_decide.mpr
        have e : (0 : Int64).toInt = 0 := rfl
        omega
      by_cases w : m < 10000 ^ n
      · rw [if_pos w] at eC
        have tO : ∀ i, i ≠ 14 → i ≠ 15 → i ≠ 16 → i ≠ 17 → (tkF h 14 9).1 i = h.1 i := fun i a b c d => tk_O a b c d
        have ZT : SK (tkF h 14 9) R E rt en := by
          unfold SK
          rw [tO 6 (by decide) (by decide) (by decide) (by decide), tO 7 (by decide) (by decide) (by decide) (by decide), tO 8 (by decide) (by decide) (by decide) (by decide)]
          exact Z
        have s0 : Sc h (tkF h 14 9) := by
          unfold tkF
          exact Sc_tr (Sc_tr (Sc_tr (Sc_A h _ (by decide)) (Sc_A _ _ (by decide))) (Sc_A _ _ (by decide))) (Sc_I _ _ _ (by decide))
        have run : ∀ q : Hp, q.1 41 13 = nI C → q.1 41 11 = h.1 41 11 → q.1 41 12 = h.1 41 12 → q.1 48 = h.1 48 → q.1 49 = h.1 49 → (∀ i, i < 32 → q.1 44 i = h.1 43 i) → ∃ r h' q', f_X6_judge_43 0 (nI n) (lN m) FU 0 (tkF h 14 9) = some (r, h') ∧ f_X7_judge_36 41 (nI n) (lN m) FU 0 q = some (r, q') ∧ Sc (tkF h 14 9) h' ∧ Sc q q' := by
          intro q a1 a2 a3 a4 a5 a6
          refine j_loop (C := C) (R := R) (E := E) (rt := rt) (en := en) hn4 hm n FU FU 0 (tkF h 14 9) q (by unfold FU; omega) (by unfold FU; omega) (by omega) ⟨hC, by rw [tk_5]; exact hW.2.1, a1, tk_VL hC hW.2.2.2.1, AG_cg hC (tk_AG hC hW.2.2.2.2) a6, ZT, ?_⟩
          unfold NK
          rw [a2, a3, a4, a5]
          exact N
        obtain ⟨r, h', -, y1, -, y3, -⟩ := run (sA h 44 (h.1 43)) (by rw [sA_ne _ _ (by decide)]; exact hW.2.2.1) (by rw [sA_ne _ _ (by decide)]) (by rw [sA_ne _ _ (by decide)]) (by rw [sA_ne _ _ (by decide)]) (by rw [sA_ne _ _ (by decide)]) (fun i _ => by rw [sA_at])
        have s1 := Sc_tr s0 y3
        obtain ⟨f, l5, l6⟩ := q_lay h'
        obtain ⟨r', h'', q', z1, z2, z3, z4⟩ := run (sA h' 44 f) (by rw [sA_ne _ _ (by decide), s1.2.2.2 13 (by decide)]; exact hW.2.2.1) (by rw [sA_ne _ _ (by decide), s1.2.2.2 11 (by decide)]) (by rw [sA_ne _ _ (by decide), s1.2.2.2 12 (by decide)]) (by rw [sA_ne _ _ (by decide), s1.2.1 48 (by decide) (by decide) (by decide)]) (by rw [sA_ne _ _ (by decide), s1.2.1 49 (by decide) (by decide) (by decide)]) (fun i hi => by rw [sA_at, l5 i hi, s1.2.1 43 (by decide) (by decide) (by decide)])
        rw [y1] at z1
        cases z1
        refine ⟨r, h', q', by rw [eC]; exact y1, ?_, Rel_Sc H0 (Sc_tr s1 (Sc_tr (Sc_A (i := 44) h' f (by decide)) z4))⟩
        have eM' : f_X7_judge 41 (nI n) (lN m) h' = bnd (f_X7_in (lN m) (0 : Int64) (lN (10000 ^ n) - 1) h') (fun r19 h18 => (if r19 = 0 then (some ((-2 : Int32), h18)) else ((f_X7_layTrial 41 h18).bind (fun h22 => f_X7_judge_36 41 (nI n) (lN m) FU (0 : Int32) h22)))) := by
          unfold f_X7_judge
          rw [p_in32 _ _ _ 1 4 rfl rfl, bnd_s, ifb, if_pos q, p_tth hn4, bnd_s]
        have eI' : f_X7_in (lN m) (0 : Int64) (lN (10000 ^ n) - 1) h' = some (b01 (decide (m < 10000 ^ n)), h') := by
          rw [p_in] at eI ⊢
          have := congrArg (fun o : Option (Int32 × Hp) => o.map Prod.fst) eI
          have : b01 _ = b01 _ := Option.some.inj this
          rw [this]
        rw [eM', eI', bnd_s, ifb, if_pos (decide_eq_true w), l6, bind_s]
        exact z2
      · refine no 0 ?_ ?_
        · rw [eC, if_neg w]
        · rw [eM, eI, bnd_s, ifb, if_neg (fun z => w (of_decide_eq_true z))]
  · refine no 0 ?_ ?_
    · unfold f_X6_judge
      have q2 : ¬ (1 ≤ x.toInt ∧ x.toInt ≤ 4) := fun z => q (decide_eq_true z)
      by_cases w : x < 1
      · rw [if_pos w]
      · rw [if_neg w, if_pos (by rw [c4]; rw [c1] at w; omega)]
    · unfold f_X7_judge
      rw [p_in32 _ _ _ 1 4 rfl rfl, bnd_s, ifb, if_neg q]
