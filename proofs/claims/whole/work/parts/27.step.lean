/-! a step of reading, in the class -/
def CT (h : Hp) (rc ec cc pc k g : Nat) (rts ens : Nat → Nat) (sgs : Nat → Int32) : Prop :=
  h.1 1 5 = nI rc ∧ h.1 1 6 = nI ec ∧ h.1 1 7 = nI cc ∧ h.1 1 8 = nI pc ∧ h.1 1 11 = nI k ∧ h.1 1 12 = nI g ∧ (∀ j, j < rc → h.1 3 j = nI (rts j)) ∧ (∀ j, j < ec → h.1 4 j = nI (ens j)) ∧ (∀ j, j < nsG cc k g → h.1 5 j = sgs j)
def CTs (h : Hp) : RSt → Prop := fun s => CT h s.1 s.2.1 s.2.2.1 s.2.2.2.1 s.2.2.2.2.1 s.2.2.2.2.2.1 s.2.2.2.2.2.2.1 s.2.2.2.2.2.2.2.1 s.2.2.2.2.2.2.2.2
def Out (T : RSt → Prop) (r : Int32) (o : Option RSt) : Prop := (o = none → r = 0) ∧ (∀ s, o = some s → r = 1 ∧ T s)
theorem p_isL (c : Int32) (h : Hp) : f_X3_isLetter c h = some (b01 (ltB c), h) := by
  unfold f_X3_isLetter ltB inI
  by_cases q : c < 97
  · rw [if_pos q, decide_eq_false (fun z => by rw [Int32.lt_iff_toInt_lt] at q; have q2 : c.toInt < 97 := q; omega)]; rfl
  · rw [if_neg q]
    by_cases q2 : 101 < c
    · rw [if_pos q2, decide_eq_false (fun z => by rw [Int32.lt_iff_toInt_lt] at q2; have q3 : 101 < c.toInt := q2; omega)]; rfl
    · rw [if_neg q2, decide_eq_true (by rw [Int32.lt_iff_toInt_lt] at q q2; have q3 : ¬ c.toInt < 97 := q; have q4 : ¬ 101 < c.toInt := q2; omega)]; rfl
theorem q_isL (c : Int32) (h : Hp) : f_X7_isLetter c h = some (b01 (ltB c), h) := by
  unfold f_X7_isLetter
  rw [p_in32 _ _ _ 97 101 rfl rfl, bnd_s, if_pos (by cases (inI c 97 101) <;> rfl)]
  rfl
theorem p_ofl {h : Hp} {k : Nat} (hk : k < 4) (e : h.1 1 11 = nI k) : f_X3_isOfLetters 1 h = some (b01 (decide (k = 1 ∨ k = 2)), h) := by
  unfold f_X3_isOfLetters g_X3_isOfLetters_16
  rw [e]
  rcases (show k = 0 ∨ k = 1 ∨ k = 2 ∨ k = 3 by omega) with rfl | rfl | rfl | rfl <;> rfl
theorem p_need {h : Hp} {k g : Nat} (hk : k < 4) (hg : g ≤ 4) (e : h.1 1 11 = nI k) (e2 : h.1 1 12 = nI g) : f_X3_needsMore 1 h = some (b01 (ndB k g), h) := by
  unfold f_X3_needsMore
  rw [p_ofl hk e, bnd_s, ifb, e, e2]
  rcases (show k = 0 ∨ k = 1 ∨ k = 2 ∨ k = 3 by omega) with rfl | rfl | rfl | rfl <;> rcases (show g = 0 ∨ g = 1 ∨ g = 2 ∨ g = 3 ∨ g = 4 by omega) with rfl | rfl | rfl | rfl | rfl <;> rfl
theorem q_may {h : Hp} {k g : Nat} (hk : k < 4) (hg : g ≤ 4) : f_X7_mayEnd (nI k) (nI g) h = some (b01 (!ndB k g), h) := by
  unfold f_X7_mayEnd g_X7_mayEnd_21
  rcases (show k = 0 ∨ k = 1 ∨ k = 2 ∨ k = 3 by omega) with rfl | rfl | rfl | rfl <;> rcases (show g = 0 ∨ g = 1 ∨ g = 2 ∨ g = 3 ∨ g = 4 by omega) with rfl | rfl | rfl | rfl | rfl <;> rfl
def smI (c : Int32) : Int32 := if ltB c = true then nI (cvN c) else if c = 42 then 6 else if c = 45 then 0 else if c = 46 then 7 else -1
theorem p_sm (c : Int32) (h : Hp) : f_X3_signMeant c h = some (smI c, h) := by
  unfold f_X3_signMeant smI
  rw [p_isL, bnd_s, ifb]
  by_cases q : ltB c = true
  · rw [if_pos q, if_pos q]
    obtain ⟨m, h1, h2, rfl, h4⟩ := lt_of q
    rw [h4, show (97 : Int32) = nI 97 from rfl, pk_sub h1, L1, nI_add]
    congr 3
    omega
  · rw [if_neg q, if_neg q]
    by_cases q1 : c = 42
    · rw [if_pos q1, if_pos q1]
    · rw [if_neg q1, if_neg q1]
      by_cases q2 : c = 43
      · subst q2; rfl
      · rw [if_neg q2]
        by_cases q3 : c = 44
        · subst q3; rfl
        · rw [if_neg q3]
          by_cases q4 : c = 45
          · subst q4; rfl
          · rw [if_neg q4, if_neg q4]
            by_cases q5 : c = 46
            · subst q5; rfl
            · rw [if_neg q5, if_neg q5]
theorem sgn_o {g : Nat} (hg : g < 4) (c : Int32) : (svO g c = none → sgB (nI g) (smI c) = false) ∧ (∀ v, svO g c = some v → sgB (nI g) (smI c) = true ∧ smI c = nI v) := by
  by_cases q : ltB c = true
  · obtain ⟨m, h1, h2, rfl, h4⟩ := lt_of q
    unfold svO smI
    rw [if_pos q, if_pos q, h4]
    refine ⟨fun z => (by cases z), fun v z => ?_⟩
    cases z
    refine ⟨?_, rfl⟩
    rcases (show m = 97 ∨ m = 98 ∨ m = 99 ∨ m = 100 ∨ m = 101 by omega) with rfl | rfl | rfl | rfl | rfl <;> rcases (show g = 0 ∨ g = 1 ∨ g = 2 ∨ g = 3 by omega) with rfl | rfl | rfl | rfl <;> rfl
  · unfold svO smI
    rw [if_neg q, if_neg q]
    by_cases q1 : c = 42
    · subst q1
      rcases (show g = 0 ∨ g = 1 ∨ g = 2 ∨ g = 3 by omega) with rfl | rfl | rfl | rfl
      · exact ⟨fun _ => rfl, fun v z => by cases z⟩
      · exact ⟨fun _ => rfl, fun v z => by cases z⟩
      · exact ⟨fun z => (by cases z), fun v z => by cases z; exact ⟨rfl, rfl⟩⟩
      · exact ⟨fun z => (by cases z), fun v z => by cases z; exact ⟨rfl, rfl⟩⟩
    · rw [if_neg q1, if_neg q1]
      by_cases q2 : c = 45
      · subst q2
        rcases (show g = 0 ∨ g = 1 ∨ g = 2 ∨ g = 3 by omega) with rfl | rfl | rfl | rfl
        · exact ⟨fun _ => rfl, fun v z => by cases z⟩
        · exact ⟨fun z => (by cases z), fun v z => by cases z; exact ⟨rfl, rfl⟩⟩
        · exact ⟨fun _ => rfl, fun v z => by cases z⟩
        · exact ⟨fun _ => rfl, fun v z => by cases z⟩
      · rw [if_neg q2, if_neg q2]
        by_cases q3 : c = 46
        · subst q3
          rcases (show g = 0 ∨ g = 1 ∨ g = 2 ∨ g = 3 by omega) with rfl | rfl | rfl | rfl
          · exact ⟨fun _ => rfl, fun v z => by cases z⟩
          · exact ⟨fun _ => rfl, fun v z => by cases z⟩
          · exact ⟨fun z => (by cases z), fun v z => by cases z; exact ⟨rfl, rfl⟩⟩
          · exact ⟨fun z => (by cases z), fun v z => by cases z; exact ⟨rfl, rfl⟩⟩
        · rw [if_neg q3, if_neg q3]
          rcases (show g = 0 ∨ g = 1 ∨ g = 2 ∨ g = 3 by omega) with rfl | rfl | rfl | rfl <;> exact ⟨fun _ => rfl, fun v z => by cases z⟩
theorem sm_let {c : Int32} (q : ltB c = true) : smI c = nI (cvN c) := by unfold smI; rw [if_pos q]
theorem p_addL {h : Hp} {a i L lim g v : Nat} {c : Int32} (hL : lN_ a = L) (hi : i < L) (hL4 : L ≤ 4) (hl : lim < 10) (hg : g < 10) (e : h.1 1 12 = nI g) (ev : h.1 a i = nI v) : f_X3_addLetter 1 a (nI i) (nI lim) c h = if g < lim ∧ ltB c = true then some (1, sI h a i (nI (10 * v + cvN c))) else some (0, h) := by
  unfold f_X3_addLetter
  rw [e, hL]
  by_cases q : lim ≤ g
  · rw [if_pos (by rw [nI_leI (by omega) (by omega)]; exact q), if_neg (by omega)]
  · rw [if_neg (by rw [nI_leI (by omega) (by omega)]; exact q), p_isL, bnd_s, ifb]
    by_cases q2 : ltB c = true
    · rw [if_pos q2, if_neg (by rw [L0, nI_ltI (by omega) (by omega)]; omega), if_pos (by show nI i < nI L; rw [nI_ltI (by omega) (by omega)]; omega), if_pos (okI_n hi (by omega)), p_sm, bnd_s, if_pos (okI_n hi (by omega)), nI_clamp (by omega), ev, sm_let q2, L10, pk_mul, nI_add, if_pos ⟨by omega, q2⟩]
    · rw [if_neg q2, if_neg (fun z => q2 z.2)]
theorem Sc_go (h : Hp) {a : Nat} (ha : a ∈ scA) (i : Nat) (v w : Int32) : Sc h (sI (sI h a i v) 1 12 w) := Sc_tr (Sc_I h i v ha) (Sc_t _ _ (by decide))
theorem p_go {h : Hp} {rc ec cc pc k g : Nat} {rts ens : Nat → Nat} {sgs : Nat → Int32} {c : Int32} (I : IV rc ec cc pc k g rts ens sgs) (T : CT h rc ec cc pc k g rts ens sgs) (hk : k ≠ 0) (h3 : k = 3 → g < 4) : ∃ r h', f_X3_goOnWith 1 c h = some (r, h') ∧ Sc h h' ∧ Out (CTs h') r (goO rc ec cc pc k g rts ens sgs c) := by
  obtain ⟨i1, i2, i3, i4, i5, i6, i7, i8, i9, i10, i11, i12, i13⟩ := I
  obtain ⟨t1, t2, t3, t4, t5, t6, t7, t8, t9⟩ := T
  have ez : ∀ h : Hp, g_X3_goOnWith_62 1 c 0 h = some (0, sI h 1 12 (h.1 1 12 + 0)) := fun h => rfl
  have eo : ∀ h : Hp, g_X3_goOnWith_62 1 c 1 h = some (1, sI h 1 12 (h.1 1 12 + 1)) := fun h => rfl
  unfold f_X3_goOnWith goO
  rw [t5]
  by_cases q1 : k = 1
  · subst q1
    rw [if_pos (show nI 1 = (1 : Int32) from rfl), if_pos (show (1 : Nat) = 1 from rfl), R1_2, t1, L1, pk_sub (i7 rfl).1, L4, p_addL N_3 (by have := (i7 rfl).1; omega) (by omega) (by omega) (by omega) t6 (t7 _ (by have := (i7 rfl).1; omega))]
    by_cases q : g < 4 ∧ ltB c = true
    · rw [if_pos q, if_pos q, bnd_s, eo]
      refine ⟨1, _, rfl, Sc_go h (by decide) _ _ _, fun z => (by cases z), fun s z => ?_⟩
      cases z
      refine ⟨rfl, ?_, ?_, ?_, ?_, ?_, ?_, fun j hj => ?_, fun j hj => ?_, fun j hj => ?_⟩
      · simpa [rI] using t1
      · simpa [rI] using t2
      · simpa [rI] using t3
      · simpa [rI] using t4
      · simpa [rI] using t5
      · simp only [rI_at]
        rw [rI_ne _ _ (by decide), t6, L1, nI_add]
      · rw [rI_ne _ _ (by decide), rI]
        simp only [updN]
        by_cases z : j = rc - 1
        · rw [if_pos ⟨trivial, z⟩, if_pos z]
        · rw [if_neg (fun w => z w.2), if_neg z]; exact t7 j hj
      · rw [rI_ne _ _ (by decide), rI_ne _ _ (by decide)]; exact t8 j hj
      · rw [rI_ne _ _ (by decide), rI_ne _ _ (by decide)]; exact t9 j hj
    · rw [if_neg q, if_neg q, bnd_s, ez]
      exact ⟨0, _, rfl, Sc_t _ _ (by decide), fun _ => rfl, fun s z => by cases z⟩
  · rw [if_neg (by rw [L1, nI_eq (by omega) (by omega)]; exact q1), if_neg q1]
    by_cases q2 : k = 2
    · subst q2
      rw [if_pos (show nI 2 = (2 : Int32) from rfl), if_pos (show (2 : Nat) = 2 from rfl), R1_3, t2, L1, pk_sub (i8 rfl).1, L2, p_addL N_4 (by have := (i8 rfl).1; omega) (by omega) (by omega) (by omega) t6 (t8 _ (by have := (i8 rfl).1; omega))]
      by_cases q : g < 2 ∧ ltB c = true
      · rw [if_pos q, if_pos q, bnd_s, eo]
        refine ⟨1, _, rfl, Sc_go h (by decide) _ _ _, fun z => (by cases z), fun s z => ?_⟩
        cases z
        refine ⟨rfl, ?_, ?_, ?_, ?_, ?_, ?_, fun j hj => ?_, fun j hj => ?_, fun j hj => ?_⟩
        · simpa [rI] using t1
        · simpa [rI] using t2
        · simpa [rI] using t3
        · simpa [rI] using t4
        · simpa [rI] using t5
        · simp only [rI_at]
          rw [rI_ne _ _ (by decide), t6, L1, nI_add]
        · rw [rI_ne _ _ (by decide), rI_ne _ _ (by decide)]; exact t7 j hj
        · rw [rI_ne _ _ (by decide), rI]
          simp only [updN]
          by_cases z : j = ec - 1
          · rw [if_pos ⟨trivial, z⟩, if_pos z]
          · rw [if_neg (fun w => z w.2), if_neg z]; exact t8 j hj
        · rw [rI_ne _ _ (by decide), rI_ne _ _ (by decide)]; exact t9 j hj
      · rw [if_neg q, if_neg q, bnd_s, ez]
        exact ⟨0, _, rfl, Sc_t _ _ (by decide), fun _ => rfl, fun s z => by cases z⟩
    · have q3 : k = 3 := by omega
      subst q3
      have hg := h3 rfl
      have hc1 := i9 rfl
      obtain ⟨o1, o2⟩ := sgn_o hg c
      rw [if_neg (by rw [L2, nI_eq (by omega) (by omega)]; exact q2), if_neg q2]
      unfold f_X3_addSign
      rw [p_sm, bnd_s, t6, p_allow, bnd_s, ifb, R1_4, N_5, t3, L1, pk_sub hc1, L4, pk_mul, nI_add]
      cases hv : svO g c with
      | none =>
        rw [if_neg (by rw [o1 hv]; decide), bnd_s]
        rw [ez]
        exact ⟨0, _, rfl, Sc_t _ _ (by decide), fun _ => rfl, fun s z => by cases z⟩
      | some v =>
        obtain ⟨o3, o4⟩ := o2 v hv
        rw [if_pos o3, if_neg (by rw [L0, nI_ltI (by omega) (by omega)]; omega), if_pos (by show nI _ < nI 16; rw [nI_ltI (by omega) (by omega)]; omega), if_pos (okI_n (by omega) (by decide)), nI_clamp (by omega), o4, bnd_s]
        rw [← L1, eo]
        refine ⟨1, _, rfl, Sc_go h (by decide) _ _ _, fun z => (by cases z), fun s z => ?_⟩
        cases z
        refine ⟨rfl, ?_, ?_, ?_, ?_, ?_, ?_, fun j hj => ?_, fun j hj => ?_, fun j hj => ?_⟩
        · simpa [rI] using t1
        · simpa [rI] using t2
        · simpa [rI] using t3
        · simpa [rI] using t4
        · simpa [rI] using t5
        · simp only [rI_at]
          rw [rI_ne _ _ (by decide), t6, L1, nI_add]
        · rw [rI_ne _ _ (by decide), rI_ne _ _ (by decide)]; exact t7 j hj
        · rw [rI_ne _ _ (by decide), rI_ne _ _ (by decide)]; exact t8 j hj
        · rw [rI_ne _ _ (by decide), rI]
          have hj : j < nsG cc 3 (g + 1) := hj
          unfold nsG at hj t9
          rw [if_pos rfl] at hj t9
          show _ = upd sgs (4 * (cc - 1) + g) (nI v) j
          by_cases z : j = 4 * (cc - 1) + g
          · rw [if_pos ⟨rfl, by omega⟩, z, upd_at]
          · rw [if_neg (fun w => z (by omega)), upd_ne _ _ z]; exact t9 j (by omega)
theorem nsG_full {rc ec cc pc k g : Nat} {rts ens : Nat → Nat} {sgs : Nat → Int32} (I : IV rc ec cc pc k g rts ens sgs) (hn : ndB k g = false) : nsG cc k g = 4 * cc := by
  obtain ⟨i1, i2, i3, i4, i5, i6, i7, i8, i9, i10, i11, i12, i13⟩ := I
  unfold nsG
  by_cases q : k = 3
  · rw [if_pos q]
    unfold ndB at hn
    rw [if_neg (by omega)] at hn
    have : ¬ (k = 3 ∧ g < 4) := of_decide_eq_false hn
    have := i9 q
    omega
  · rw [if_neg q]
theorem p_be {h : Hp} {rc ec cc pc k g : Nat} {rts ens : Nat → Nat} {sgs : Nat → Int32} {c : Int32} (I : IV rc ec cc pc k g rts ens sgs) (hn : ndB k g = false) (T : CT h rc ec cc pc k g rts ens sgs) : ∃ r h', f_X3_beginPart 1 c h = some (r, h') ∧ Sc h h' ∧ Out (CTs h') r (beO rc ec cc pc rts ens sgs c) := by
  have nf := nsG_full I hn
  obtain ⟨i1, i2, i3, i4, i5, i6, i7, i8, i9, i10, i11, i12, i13⟩ := I
  obtain ⟨t1, t2, t3, t4, t5, t6, t7, t8, t9⟩ := T
  rw [nf] at t9
  unfold f_X3_beginPart g_X3_beginPart_42 g_X3_beginPart_84 g_X3_beginPart_118 beO
  rw [t1, t2, t3, R1_2, R1_3, N_3, N_4]
  by_cases q1 : c = 82
  · subst q1
    rw [if_pos rfl]
    by_cases q : rc < 4
    · rw [if_neg (by rw [L4, nI_leI (by omega) (by omega)]; omega), if_pos (okI_n q (by decide)), nI_clamp (by omega), if_pos ⟨rfl, q⟩]
      refine ⟨1, _, rfl, Sc_tr (Sc_tr (Sc_tr (Sc_tr (Sc_I h _ _ (by decide)) (Sc_t _ _ (by decide))) (Sc_t _ _ (by decide))) (Sc_t _ _ (by decide))) (Sc_t _ _ (by decide)), fun z => (by cases z), fun s z => ?_⟩
      cases z
      refine ⟨rfl, ?_, ?_, ?_, ?_, ?_, ?_, fun j hj => ?_, fun j hj => ?_, fun j hj => ?_⟩
      · simp [rI, t1, L1, nI_add]
      · simpa [rI] using t2
      · simpa [rI] using t3
      · simp [rI, t4, L1, nI_add]
      · simp [rI]; rfl
      · simp [rI]; rfl
      · rw [rI_ne _ _ (by decide), rI_ne _ _ (by decide), rI_ne _ _ (by decide), rI_ne _ _ (by decide), rI]
        simp only [updN]
        by_cases z : j = rc
        · rw [if_pos ⟨trivial, z⟩, if_pos z]; rfl
        · rw [if_neg (fun w => z w.2), if_neg z]; exact t7 j (by have hj : j < rc + 1 := hj; omega)
      · simp only [rI_ne _ _ (show (4 : Nat) ≠ 1 by decide), rI_ne _ _ (show (4 : Nat) ≠ 3 by decide)]; exact t8 j hj
      · simp only [rI_ne _ _ (show (5 : Nat) ≠ 1 by decide), rI_ne _ _ (show (5 : Nat) ≠ 3 by decide)]; exact t9 j hj
    · rw [if_pos (by rw [L4, nI_leI (by omega) (by omega)]; omega), if_neg (show ¬ ((82 : Int32) = 82 ∧ rc < 4) from fun z => q z.2), if_neg (show ¬ (82 : Int32) = 69 by decide), if_neg (show ¬ (82 : Int32) = 67 by decide), if_neg (show ¬ ((82 : Int32) = 69 ∧ ec < 3) from fun z => absurd z.1 (by decide)), if_neg (show ¬ ((82 : Int32) = 67 ∧ cc < 4) from fun z => absurd z.1 (by decide))]
      exact ⟨0, _, rfl, Sc_rf h, fun _ => rfl, fun s z => by cases z⟩
  · rw [if_neg q1, if_neg (show ¬ (c = 82 ∧ rc < 4) from fun z => q1 z.1)]
    by_cases q2 : c = 69
    · subst q2
      rw [if_pos rfl]
      by_cases q : ec < 3
      · rw [if_neg (by rw [L3, nI_leI (by omega) (by omega)]; omega), if_pos (okI_n q (by decide)), nI_clamp (by omega), if_pos ⟨rfl, q⟩]
        refine ⟨1, _, rfl, Sc_tr (Sc_tr (Sc_tr (Sc_tr (Sc_I h _ _ (by decide)) (Sc_t _ _ (by decide))) (Sc_t _ _ (by decide))) (Sc_t _ _ (by decide))) (Sc_t _ _ (by decide)), fun z => (by cases z), fun s z => ?_⟩
        cases z
        refine ⟨rfl, ?_, ?_, ?_, ?_, ?_, ?_, fun j hj => ?_, fun j hj => ?_, fun j hj => ?_⟩
        · simpa [rI] using t1
        · simp [rI, t2, L1, nI_add]
        · simpa [rI] using t3
        · simp [rI, t4, L1, nI_add]
        · simp [rI]; rfl
        · simp [rI]; rfl
        · simp only [rI_ne _ _ (show (3 : Nat) ≠ 1 by decide), rI_ne _ _ (show (3 : Nat) ≠ 4 by decide)]; exact t7 j hj
        · rw [rI_ne _ _ (by decide), rI_ne _ _ (by decide), rI_ne _ _ (by decide), rI_ne _ _ (by decide), rI]
          simp only [updN]
          by_cases z : j = ec
          · rw [if_pos ⟨trivial, z⟩, if_pos z]; rfl
          · rw [if_neg (fun w => z w.2), if_neg z]; exact t8 j (by have hj : j < ec + 1 := hj; omega)
        · simp only [rI_ne _ _ (show (5 : Nat) ≠ 1 by decide), rI_ne _ _ (show (5 : Nat) ≠ 4 by decide)]; exact t9 j hj
      · rw [if_pos (by rw [L3, nI_leI (by omega) (by omega)]; omega), if_neg (show ¬ ((69 : Int32) = 69 ∧ ec < 3) from fun z => q z.2), if_neg (show ¬ (69 : Int32) = 67 by decide), if_neg (show ¬ ((69 : Int32) = 67 ∧ cc < 4) from fun z => absurd z.1 (by decide))]
        exact ⟨0, _, rfl, Sc_rf h, fun _ => rfl, fun s z => by cases z⟩
    · rw [if_neg q2, if_neg (show ¬ (c = 69 ∧ ec < 3) from fun z => q2 z.1)]
      by_cases q3 : c = 67
      · subst q3
        rw [if_pos rfl]
        by_cases q : cc < 4
        · rw [if_neg (by rw [L4, nI_leI (by omega) (by omega)]; omega), if_pos ⟨rfl, q⟩]
          refine ⟨1, _, rfl, Sc_tr (Sc_tr (Sc_tr (Sc_t _ _ (by decide)) (Sc_t _ _ (by decide))) (Sc_t _ _ (by decide))) (Sc_t _ _ (by decide)), fun z => (by cases z), fun s z => ?_⟩
          cases z
          refine ⟨rfl, ?_, ?_, ?_, ?_, ?_, ?_, fun j hj => ?_, fun j hj => ?_, fun j hj => ?_⟩
          · simpa [rI] using t1
          · simpa [rI] using t2
          · simp [rI, L1, nI_add]
          · simp [rI, t4, L1, nI_add]
          · simp [rI]; rfl
          · simp [rI]; rfl
          · simp only [rI_ne _ _ (show (3 : Nat) ≠ 1 by decide)]; exact t7 j hj
          · simp only [rI_ne _ _ (show (4 : Nat) ≠ 1 by decide)]; exact t8 j hj
          · simp only [rI_ne _ _ (show (5 : Nat) ≠ 1 by decide)]; exact t9 j (by have hj : j < nsG (cc + 1) 3 0 := hj; unfold nsG at hj; rw [if_pos rfl] at hj; omega)
        · rw [if_pos (by rw [L4, nI_leI (by omega) (by omega)]; omega), if_neg (fun z => q z.2)]
          exact ⟨0, _, rfl, Sc_rf h, fun _ => rfl, fun s z => by cases z⟩
      · rw [if_neg q3, if_neg (show ¬ (c = 67 ∧ cc < 4) from fun z => q3 z.1)]
        exact ⟨0, _, rfl, Sc_rf h, fun _ => rfl, fun s z => by cases z⟩
