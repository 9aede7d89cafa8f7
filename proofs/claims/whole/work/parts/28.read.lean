/-! a step of reading, in the reference -/
def MT (h : Hp) (rc ec cc pc k g : Nat) (rts ens : Nat → Nat) (sgs : Nat → Int32) : Prop :=
  h.1 41 17 = nI rc ∧ h.1 41 18 = nI ec ∧ h.1 41 19 = nI cc ∧ h.1 41 20 = nI pc ∧ (∀ j, j < rc → h.1 50 j = nI (rts j)) ∧ (∀ j, j < ec → h.1 51 j = nI (ens j)) ∧ (∀ j, j < nsG cc k g → h.1 52 j = sgs j)
def MTs (h : Hp) : RSt → Prop := fun s => MT h s.1 s.2.1 s.2.2.1 s.2.2.2.1 s.2.2.2.2.1 s.2.2.2.2.2.1 s.2.2.2.2.2.2.1 s.2.2.2.2.2.2.2.1 s.2.2.2.2.2.2.2.2
def Sm (h h' : Hp) : Prop := h'.2 = h.2 ∧ (∀ i, i ≠ 41 → i ≠ 50 → i ≠ 51 → i ≠ 52 → h'.1 i = h.1 i) ∧ (∀ k, (k < 17 ∨ 21 ≤ k) → h'.1 41 k = h.1 41 k)
theorem Sm_rf (h : Hp) : Sm h h := ⟨rfl, fun _ _ _ _ _ => rfl, fun _ _ => rfl⟩
theorem Sm_tr {h h1 h2 : Hp} (a : Sm h h1) (b : Sm h1 h2) : Sm h h2 := ⟨b.1.trans a.1, fun i w x y z => (b.2.1 i w x y z).trans (a.2.1 i w x y z), fun k x => (b.2.2 k x).trans (a.2.2 k x)⟩
theorem Sm_I (h : Hp) {i : Nat} (k : Nat) (v : Int32) (hi : i = 50 ∨ i = 51 ∨ i = 52) : Sm h (sI h i k v) := ⟨rfl, fun j _ x y z => rI_ne h v (by omega), fun k _ => by rw [rI_ne h v (by omega)]⟩
theorem Sm_m (h : Hp) {k : Nat} (v : Int32) (hk : 17 ≤ k ∧ k ≤ 20) : Sm h (sI h 41 k v) := ⟨rfl, fun j x _ _ _ => rI_ne h v x, fun j x => rI_k h v (by omega)⟩
theorem Sm_Sc {h h' : Hp} (a : Sm h h') : Sc h h' := ⟨a.1, fun i x y z => a.2.1 i z (fun w => x (by subst w; decide)) (fun w => x (by subst w; decide)) (fun w => x (by subst w; decide)), by rw [a.2.1 1 (by decide) (by decide) (by decide) (by decide)], fun k z => a.2.2 k (by omega)⟩
theorem q_sv {g : Nat} (hg : g < 4) (c : Int32) (h : Hp) : f_X7_signOf c (nI g) h = some ((svO g c).elim (-9) nI, h) := by
  unfold f_X7_signOf svO
  rw [q_isL, bnd_s, ifb]
  by_cases q : ltB c = true
  · rw [if_pos q, if_pos q]
    obtain ⟨m, h1, h2, rfl, h4⟩ := lt_of q
    rw [h4, show (96 : Int32) = nI 96 from rfl, pk_sub (by omega)]
    rfl
  · rw [if_neg q, if_neg q]
    rcases (show g = 0 ∨ g = 1 ∨ g = 2 ∨ g = 3 by omega) with rfl | rfl | rfl | rfl
    · rfl
    · rw [if_pos (show nI 1 = (1 : Int32) from rfl), if_pos (show (1 : Nat) = 1 from rfl)]
      by_cases q2 : c = 45
      · rw [if_pos q2, if_pos q2]; rfl
      · rw [if_neg q2, if_neg q2]; rfl
    all_goals
      rw [if_neg (show ¬ nI _ = (1 : Int32) by decide), if_neg (show ¬ nI _ = (0 : Int32) by decide), if_neg (show ¬ (_ : Nat) = 1 by decide), if_neg (show ¬ (_ : Nat) = 0 by decide)]
      by_cases q2 : c = 42
      · rw [if_pos q2, if_pos q2]; rfl
      · rw [if_neg q2, if_neg q2]
        by_cases q3 : c = 46
        · rw [if_pos q3, if_pos q3]; rfl
        · rw [if_neg q3, if_neg q3]; rfl
theorem q_most {k : Nat} (hk : k < 4) (h : Hp) : f_X7_mostOf (nI k) h = some (nI (if k = 1 then 4 else if k = 2 then 2 else if k = 3 then 4 else 0), h) := by
  rcases (show k = 0 ∨ k = 1 ∨ k = 2 ∨ k = 3 by omega) with rfl | rfl | rfl | rfl <;> rfl
theorem q_take0 {h : Hp} {k g : Nat} {c : Int32} (hk : k < 4) (hg : g ≤ 4) (q : k = 0 ∨ (k = 3 ∧ g = 4) ∨ (k ≠ 3 ∧ ltB c = false)) : f_X7_take 41 (nI k) (nI g) c h = some (0, h) := by
  unfold f_X7_take
  rw [q_most hk, bnd_s]
  rcases q with rfl | ⟨rfl, rfl⟩ | ⟨q1, q2⟩
  · rw [if_neg (by rw [nI_ltI (by omega) (by decide)]; simp)]
  · rfl
  · by_cases z : nI g < nI (if k = 1 then 4 else if k = 2 then 2 else if k = 3 then 4 else 0)
    · rw [if_pos z, if_neg (by rw [L3, nI_eq (by omega) (by omega)]; exact q1), q_isL, q2]
      rfl
    · rw [if_neg z]
theorem ne9 {v : Nat} (h : v < 1000000) : nI v ≠ (-9 : Int32) := fun z => by
  have := congrArg Int32.toInt z
  rw [nI_toInt (by omega)] at this
  have e : (-9 : Int32).toInt = -9 := rfl
  omega
theorem q_take {h : Hp} {rc ec cc pc k g : Nat} {rts ens : Nat → Nat} {sgs : Nat → Int32} {c : Int32} (I : IV rc ec cc pc k g rts ens sgs) (T : MT h rc ec cc pc k g rts ens sgs) (hk : k ≠ 0) (h3 : k = 3 → g < 4) : ∃ r h', f_X7_take 41 (nI k) (nI g) c h = some (r, h') ∧ Sm h h' ∧ h'.1 41 = h.1 41 ∧ Out (MTs h') r (goO rc ec cc pc k g rts ens sgs c) := by
  obtain ⟨i1, i2, i3, i4, i5, i6, i7, i8, i9, i10, i11, i12, i13⟩ := I
  obtain ⟨t1, t2, t3, t4, t7, t8, t9⟩ := T
  unfold f_X7_take goO
  rw [q_most i5, bnd_s]
  have lv : ltB c = true → c - 96 = nI (cvN c) ∧ cvN c < 10 := fun q => by
    obtain ⟨m, h1, h2, rfl, h4⟩ := lt_of q
    rw [h4, show (96 : Int32) = nI 96 from rfl, pk_sub (by omega)]
    exact ⟨rfl, by omega⟩
  by_cases q1 : k = 1
  · subst q1
    have hr := (i7 rfl).1
    rw [if_pos (show (1 : Nat) = 1 from rfl), if_pos (show (1 : Nat) = 1 from rfl)]
    by_cases qg : g < 4
    · rw [if_pos (show nI g < nI 4 by rw [nI_ltI (by omega) (by omega)]; exact qg), if_neg (show ¬ nI 1 = (3 : Int32) by decide), q_isL, bnd_s, ifb]
      by_cases q : ltB c = true
      · rw [if_pos q, if_pos (show g < 4 ∧ ltB c = true from ⟨qg, q⟩)]
        unfold g_X7_take_39
        rw [(lv q).1, if_neg (ne9 (by have := (lv q).2; omega)), if_pos (show nI 1 = (1 : Int32) from rfl), R41_14, N_50, t1, L1, pk_sub hr, if_pos (okI_n (by omega) (by decide)), if_pos (okI_n (by omega) (by decide)), nI_clamp (by omega), t7 _ (by omega), L10, pk_mul, nI_add]
        refine ⟨1, _, rfl, Sm_I h _ _ (by decide), rI_ne _ _ (by decide), fun z => (by cases z), fun s z => ?_⟩
        cases z
        refine ⟨rfl, ?_, ?_, ?_, ?_, fun j hj => ?_, fun j hj => ?_, fun j hj => ?_⟩
        · rw [rI_ne _ _ (by decide)]; exact t1
        · rw [rI_ne _ _ (by decide)]; exact t2
        · rw [rI_ne _ _ (by decide)]; exact t3
        · rw [rI_ne _ _ (by decide)]; exact t4
        · rw [rI]
          simp only [updN]
          by_cases z : j = rc - 1
          · rw [if_pos ⟨trivial, z⟩, if_pos z]
          · rw [if_neg (fun w => z w.2), if_neg z]; exact t7 j hj
        · rw [rI_ne _ _ (by decide)]; exact t8 j hj
        · rw [rI_ne _ _ (by decide)]; exact t9 j hj
      · rw [if_neg q, if_neg (show ¬ (g < 4 ∧ ltB c = true) from fun z => q z.2)]
        exact ⟨0, h, rfl, Sm_rf h, rfl, fun _ => rfl, fun s z => by cases z⟩
    · rw [if_neg (show ¬ nI g < nI 4 by rw [nI_ltI (by omega) (by omega)]; exact qg), if_neg (show ¬ (g < 4 ∧ ltB c = true) from fun z => qg z.1)]
      exact ⟨0, h, rfl, Sm_rf h, rfl, fun _ => rfl, fun s z => by cases z⟩
  · rw [if_neg q1, if_neg q1]
    by_cases q2 : k = 2
    · subst q2
      have hr := (i8 rfl).1
      rw [if_pos (show (2 : Nat) = 2 from rfl), if_pos (show (2 : Nat) = 2 from rfl)]
      by_cases qg : g < 2
      · rw [if_pos (show nI g < nI 2 by rw [nI_ltI (by omega) (by omega)]; exact qg), if_neg (show ¬ nI 2 = (3 : Int32) by decide), q_isL, bnd_s, ifb]
        by_cases q : ltB c = true
        · rw [if_pos q, if_pos (show g < 2 ∧ ltB c = true from ⟨qg, q⟩)]
          unfold g_X7_take_39
          rw [(lv q).1, if_neg (ne9 (by have := (lv q).2; omega)), if_neg (show ¬ nI 2 = (1 : Int32) by decide), if_pos (show nI 2 = (2 : Int32) from rfl), R41_15, N_51, t2, L1, pk_sub hr, if_pos (okI_n (by omega) (by decide)), if_pos (okI_n (by omega) (by decide)), nI_clamp (by omega), t8 _ (by omega), L10, pk_mul, nI_add]
          refine ⟨1, _, rfl, Sm_I h _ _ (by decide), rI_ne _ _ (by decide), fun z => (by cases z), fun s z => ?_⟩
          cases z
          refine ⟨rfl, ?_, ?_, ?_, ?_, fun j hj => ?_, fun j hj => ?_, fun j hj => ?_⟩
          · rw [rI_ne _ _ (by decide)]; exact t1
          · rw [rI_ne _ _ (by decide)]; exact t2
          · rw [rI_ne _ _ (by decide)]; exact t3
          · rw [rI_ne _ _ (by decide)]; exact t4
          · rw [rI_ne _ _ (by decide)]; exact t7 j hj
          · rw [rI]
            simp only [updN]
            by_cases z : j = ec - 1
            · rw [if_pos ⟨trivial, z⟩, if_pos z]
            · rw [if_neg (fun w => z w.2), if_neg z]; exact t8 j hj
          · rw [rI_ne _ _ (by decide)]; exact t9 j hj
        · rw [if_neg q, if_neg (show ¬ (g < 2 ∧ ltB c = true) from fun z => q z.2)]
          exact ⟨0, h, rfl, Sm_rf h, rfl, fun _ => rfl, fun s z => by cases z⟩
      · rw [if_neg (show ¬ nI g < nI 2 by rw [nI_ltI (by omega) (by omega)]; exact qg), if_neg (show ¬ (g < 2 ∧ ltB c = true) from fun z => qg z.1)]
        exact ⟨0, h, rfl, Sm_rf h, rfl, fun _ => rfl, fun s z => by cases z⟩
    · have q3 : k = 3 := by omega
      subst q3
      have hg := h3 rfl
      have hc1 := i9 rfl
      rw [if_neg q2, if_neg q2, if_pos (show (3 : Nat) = 3 from rfl), if_pos (show nI g < nI 4 by rw [nI_ltI (by omega) (by omega)]; exact hg), if_pos (show nI 3 = (3 : Int32) from rfl), q_sv hg, bnd_s]
      cases hv : svO g c with
      | none => exact ⟨0, h, rfl, Sm_rf h, rfl, fun _ => rfl, fun s z => by cases z⟩
      | some v =>
        have hvl := svO_lt hv
        show ∃ r h', g_X7_take_39 41 (nI 3) (nI g) c (nI v) h = _ ∧ _
        unfold g_X7_take_39
        rw [if_neg (ne9 (by omega)), if_neg (show ¬ nI 3 = (1 : Int32) by decide), if_neg (show ¬ nI 3 = (2 : Int32) by decide), R41_16, N_52, t3, L1, pk_sub hc1, L4, pk_mul, nI_add, if_pos (okI_n (by omega) (by decide)), nI_clamp (by omega)]
        refine ⟨1, _, rfl, Sm_I h _ _ (by decide), rI_ne _ _ (by decide), fun z => (by cases z), fun s z => ?_⟩
        cases z
        refine ⟨rfl, ?_, ?_, ?_, ?_, fun j hj => ?_, fun j hj => ?_, fun j hj => ?_⟩
        · rw [rI_ne _ _ (by decide)]; exact t1
        · rw [rI_ne _ _ (by decide)]; exact t2
        · rw [rI_ne _ _ (by decide)]; exact t3
        · rw [rI_ne _ _ (by decide)]; exact t4
        · rw [rI_ne _ _ (by decide)]; exact t7 j hj
        · rw [rI_ne _ _ (by decide)]; exact t8 j hj
        · rw [rI]
          have hj : j < nsG cc 3 (g + 1) := hj
          unfold nsG at hj t9
          rw [if_pos rfl] at hj t9
          show _ = upd sgs (4 * (cc - 1) + g) (nI v) j
          by_cases z : j = 4 * (cc - 1) + g
          · rw [if_pos ⟨rfl, z⟩, z, upd_at]
          · rw [if_neg (fun w => z w.2), upd_ne _ _ z]; exact t9 j (by omega)
def bgN (rc ec cc : Nat) (c : Int32) : Nat := if c = 82 ∧ rc < 4 then 1 else if c = 69 ∧ ec < 3 then 2 else if c = 67 ∧ cc < 4 then 3 else 0
theorem q_begun {h : Hp} {rc ec cc : Nat} {c : Int32} (h1 : rc ≤ 4) (h2 : ec ≤ 3) (h3 : cc ≤ 4) (t1 : h.1 41 17 = nI rc) (t2 : h.1 41 18 = nI ec) (t3 : h.1 41 19 = nI cc) : f_X7_begun 41 c h = some (nI (bgN rc ec cc c), h) := by
  unfold f_X7_begun g_X7_begun_16 g_X7_begun_32 bgN
  rw [t1, t2, t3]
  by_cases q1 : c = 82
  · subst q1
    by_cases q : rc < 4
    · rw [if_pos rfl, if_neg (by rw [L4, nI_leI (by omega) (by omega)]; omega), if_pos ⟨rfl, q⟩]; rfl
    · rw [if_pos rfl, if_pos (by rw [L4, nI_leI (by omega) (by omega)]; omega), if_neg (show ¬ ((82 : Int32) = 82 ∧ rc < 4) from fun z => q z.2), if_neg (show ¬ ((82 : Int32) = 69 ∧ ec < 3) from fun z => absurd z.1 (by decide)), if_neg (show ¬ ((82 : Int32) = 67 ∧ cc < 4) from fun z => absurd z.1 (by decide))]
      rfl
  · rw [if_neg q1, if_neg (show ¬ (c = 82 ∧ rc < 4) from fun z => q1 z.1)]
    by_cases q2 : c = 69
    · subst q2
      by_cases q : ec < 3
      · rw [if_pos rfl, if_neg (by rw [L3, nI_leI (by omega) (by omega)]; omega), if_pos ⟨rfl, q⟩]; rfl
      · rw [if_pos rfl, if_pos (by rw [L3, nI_leI (by omega) (by omega)]; omega), if_neg (show ¬ ((69 : Int32) = 69 ∧ ec < 3) from fun z => q z.2), if_neg (show ¬ ((69 : Int32) = 67 ∧ cc < 4) from fun z => absurd z.1 (by decide))]
        rfl
    · rw [if_neg q2, if_neg (show ¬ (c = 69 ∧ ec < 3) from fun z => q2 z.1)]
      by_cases q3 : c = 67
      · subst q3
        by_cases q : cc < 4
        · rw [if_pos rfl, if_neg (by rw [L4, nI_leI (by omega) (by omega)]; omega), if_pos ⟨rfl, q⟩]; rfl
        · rw [if_pos rfl, if_pos (by rw [L4, nI_leI (by omega) (by omega)]; omega), if_neg (show ¬ ((67 : Int32) = 67 ∧ cc < 4) from fun z => q z.2)]; rfl
      · rw [if_neg q3, if_neg (show ¬ (c = 67 ∧ cc < 4) from fun z => q3 z.1)]; rfl
theorem be_none {rc ec cc pc : Nat} {rts ens : Nat → Nat} {sgs : Nat → Int32} {c : Int32} (h : bgN rc ec cc c = 0) : beO rc ec cc pc rts ens sgs c = none := by
  unfold bgN at h
  unfold beO
  by_cases q1 : c = 82 ∧ rc < 4
  · rw [if_pos q1] at h; cases h
  · rw [if_neg q1] at h ⊢
    by_cases q2 : c = 69 ∧ ec < 3
    · rw [if_pos q2] at h; cases h
    · rw [if_neg q2] at h ⊢
      by_cases q3 : c = 67 ∧ cc < 4
      · rw [if_pos q3] at h; cases h
      · rw [if_neg q3]
theorem q_begin {h : Hp} {rc ec cc pc k g : Nat} {rts ens : Nat → Nat} {sgs : Nat → Int32} {c : Int32} (I : IV rc ec cc pc k g rts ens sgs) (hn : ndB k g = false) (T : MT h rc ec cc pc k g rts ens sgs) (hb : bgN rc ec cc c ≠ 0) : ∃ h' s, f_X7_begin 41 (nI (bgN rc ec cc c)) h = some h' ∧ Sm h h' ∧ beO rc ec cc pc rts ens sgs c = some s ∧ s.2.2.2.2.1 = bgN rc ec cc c ∧ s.2.2.2.2.2.1 = 0 ∧ MTs h' s := by
  have nf := nsG_full I hn
  obtain ⟨i1, i2, i3, i4, i5, i6, i7, i8, i9, i10, i11, i12, i13⟩ := I
  obtain ⟨t1, t2, t3, t4, t7, t8, t9⟩ := T
  rw [nf] at t9
  unfold bgN at hb ⊢
  unfold beO f_X7_begin
  by_cases q1 : c = 82 ∧ rc < 4
  · simp only [if_pos q1]
    rw [if_pos (show nI 1 = (1 : Int32) from rfl), R41_14, N_50, rI_k _ _ (by decide), t1, if_pos (okI_n q1.2 (by decide)), nI_clamp (by omega)]
    refine ⟨_, _, rfl, Sm_tr (Sm_tr (Sm_m _ _ (by decide)) (Sm_I _ _ _ (by decide))) (Sm_m _ _ (by decide)), rfl, rfl, rfl, ?_, ?_, ?_, ?_, fun j hj => ?_, fun j hj => ?_, fun j hj => ?_⟩
    · simp [rI, t1, L1, nI_add]
    · simpa [rI] using t2
    · simpa [rI] using t3
    · simp [rI, t4, L1, nI_add]
    · rw [rI_ne _ _ (by decide), rI, rI_ne _ _ (by decide)]
      simp only [updN]
      by_cases z : j = rc
      · rw [if_pos ⟨trivial, z⟩, if_pos z]; rfl
      · rw [if_neg (fun w => z w.2), if_neg z]; exact t7 j (by have hj : j < rc + 1 := hj; omega)
    · rw [rI_ne _ _ (by decide), rI_ne _ _ (by decide), rI_ne _ _ (by decide)]; exact t8 j hj
    · rw [rI_ne _ _ (by decide), rI_ne _ _ (by decide), rI_ne _ _ (by decide)]; exact t9 j hj
  · simp only [if_neg q1] at hb ⊢
    by_cases q2 : c = 69 ∧ ec < 3
    · simp only [if_pos q2]
      rw [if_neg (show ¬ nI 2 = (1 : Int32) by decide), if_pos (show nI 2 = (2 : Int32) from rfl), R41_15, N_51, rI_k _ _ (by decide), t2, if_pos (okI_n q2.2 (by decide)), nI_clamp (by omega)]
      refine ⟨_, _, rfl, Sm_tr (Sm_tr (Sm_m _ _ (by decide)) (Sm_I _ _ _ (by decide))) (Sm_m _ _ (by decide)), rfl, rfl, rfl, ?_, ?_, ?_, ?_, fun j hj => ?_, fun j hj => ?_, fun j hj => ?_⟩
      · simpa [rI] using t1
      · simp [rI, t2, L1, nI_add]
      · simpa [rI] using t3
      · simp [rI, t4, L1, nI_add]
      · rw [rI_ne _ _ (by decide), rI_ne _ _ (by decide), rI_ne _ _ (by decide)]; exact t7 j hj
      · rw [rI_ne _ _ (by decide), rI, rI_ne _ _ (by decide)]
        simp only [updN]
        by_cases z : j = ec
        · rw [if_pos ⟨trivial, z⟩, if_pos z]; rfl
        · rw [if_neg (fun w => z w.2), if_neg z]; exact t8 j (by have hj : j < ec + 1 := hj; omega)
      · rw [rI_ne _ _ (by decide), rI_ne _ _ (by decide), rI_ne _ _ (by decide)]; exact t9 j hj
    · simp only [if_neg q2] at hb ⊢
      by_cases q3 : c = 67 ∧ cc < 4
      · simp only [if_pos q3]
        rw [if_neg (show ¬ nI 3 = (1 : Int32) by decide), if_neg (show ¬ nI 3 = (2 : Int32) by decide), rI_k _ _ (by decide), t3]
        refine ⟨_, _, rfl, Sm_tr (Sm_m _ _ (by decide)) (Sm_m _ _ (by decide)), rfl, rfl, rfl, ?_, ?_, ?_, ?_, fun j hj => ?_, fun j hj => ?_, fun j hj => ?_⟩
        · simpa [rI] using t1
        · simpa [rI] using t2
        · simp [rI, L1, nI_add]
        · simp [rI, t4, L1, nI_add]
        · rw [rI_ne _ _ (by decide), rI_ne _ _ (by decide)]; exact t7 j hj
        · rw [rI_ne _ _ (by decide), rI_ne _ _ (by decide)]; exact t8 j hj
        · rw [rI_ne _ _ (by decide), rI_ne _ _ (by decide)]; exact t9 j (by have hj : j < nsG (cc + 1) 3 0 := hj; unfold nsG at hj; rw [if_pos rfl] at hj; omega)
      · rw [if_neg q3] at hb; exact absurd rfl hb
