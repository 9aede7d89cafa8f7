def TXc (h : Hp) (n : Nat) (lt : Nat → Int32) : Prop := h.1 1 1 = nI n ∧ ∀ j, j < n → h.1 2 j = lt j
def TXm (h : Hp) (n : Nat) (lt : Nat → Int32) : Prop := h.1 41 1 = nI n ∧ (∀ j, j < n → h.1 42 j = lt j) ∧ h.1 41 21 = -9
theorem TXc_s {h h' : Hp} {n : Nat} {lt : Nat → Int32} (e : Sc h h') (T : TXc h n lt) : TXc h' n lt := ⟨by rw [e.2.2.1]; exact T.1, fun j hj => by rw [e.2.1 2 (by decide) (by decide) (by decide)]; exact T.2 j hj⟩
theorem TXm_s {h h' : Hp} {n : Nat} {lt : Nat → Int32} (e : Sm h h') (T : TXm h n lt) : TXm h' n lt := ⟨by rw [e.2.2 1 (by decide)]; exact T.1, fun j hj => by rw [e.2.1 42 (by decide) (by decide) (by decide) (by decide)]; exact T.2.1 j hj, by rw [e.2.2 21 (by decide)]; exact T.2.2⟩
theorem CT_fr {h : Hp} {rc ec cc pc k g : Nat} {rts ens : Nat → Nat} {sgs : Nat → Int32} (T : CT h rc ec cc pc k g rts ens sgs) {f : Nat} (v : Int32) (hf : f = 9 ∨ f = 10) : CT (sI h 1 f v) rc ec cc pc k g rts ens sgs := by
  obtain ⟨t1, t2, t3, t4, t5, t6, t7, t8, t9⟩ := T
  refine ⟨?_, ?_, ?_, ?_, ?_, ?_, fun j hj => ?_, fun j hj => ?_, fun j hj => ?_⟩
  · rw [rI_k _ _ (by omega)]; exact t1
  · rw [rI_k _ _ (by omega)]; exact t2
  · rw [rI_k _ _ (by omega)]; exact t3
  · rw [rI_k _ _ (by omega)]; exact t4
  · rw [rI_k _ _ (by omega)]; exact t5
  · rw [rI_k _ _ (by omega)]; exact t6
  · rw [rI_ne _ _ (by decide)]; exact t7 j hj
  · rw [rI_ne _ _ (by decide)]; exact t8 j hj
  · rw [rI_ne _ _ (by decide)]; exact t9 j hj
theorem wi_flow {h : Hp} {n x k g : Nat} {lt : Nat → Int32} (K : Int32 → Hp → Option Hp) (hn : n ≤ 60) (hx : x < n) (hk : k < 4) (hg : g ≤ 4) (T : TXc h n lt) (e : h.1 1 11 = nI k) (e2 : h.1 1 12 = nI g) : g_X3_read_6 1 K (nI x) h = g_X3_read_45 1 K (nI x) (b01 (wiB k g (lt x))) h := by
  unfold g_X3_read_6 g_X3_read_40 g_X3_read_44
  rw [T.1, if_neg (by rw [nI_leI (by omega) (by omega)]; omega), p_need hk hg e e2, bnd_s, ifb]
  unfold wiB
  by_cases q : ndB k g = true
  · rw [if_pos q, q]; rfl
  · rw [if_neg q, bfalse q, p_ofl hk e, bnd_s, ifb, Bool.false_or]
    by_cases q2 : decide (k = 1 ∨ k = 2) = true
    · rw [if_pos q2, q2, R1_0, N_2, if_pos (okI_n (by omega) (by decide)), nI_clamp (by omega), T.2 x hx, p_isL, bnd_s, ifb, Bool.true_and]
      by_cases q3 : ltB (lt x) = true
      · rw [if_pos q3, q3]; rfl
      · rw [if_neg q3, bfalse q3]; rfl
    · rw [if_neg q2, bfalse q2, Bool.false_and]; rfl
theorem go_k {rc ec cc pc k g : Nat} {rts ens : Nat → Nat} {sgs : Nat → Int32} {c : Int32} {rc' ec' cc' pc' k' g' : Nat} {rts' ens' : Nat → Nat} {sgs' : Nat → Int32} (h : goO rc ec cc pc k g rts ens sgs c = some (rc', ec', cc', pc', k', g', rts', ens', sgs')) : k' = k ∧ g' = g + 1 ∧ pc' = pc := by
  unfold goO at h
  by_cases q1 : k = 1
  · rw [if_pos q1] at h
    by_cases q : g < 4 ∧ ltB c = true
    · rw [if_pos q] at h; cases h; exact ⟨rfl, rfl, rfl⟩
    · rw [if_neg q] at h; cases h
  · rw [if_neg q1] at h
    by_cases q2 : k = 2
    · rw [if_pos q2] at h
      by_cases q : g < 2 ∧ ltB c = true
      · rw [if_pos q] at h; cases h; exact ⟨rfl, rfl, rfl⟩
      · rw [if_neg q] at h; cases h
    · rw [if_neg q2] at h
      cases hv : svO g c with
      | none => rw [hv] at h; cases h
      | some v => rw [hv] at h; cases h; exact ⟨rfl, rfl, rfl⟩
theorem bg_let {rc ec cc : Nat} {c : Int32} (h : ltB c = true) : bgN rc ec cc c = 0 := by
  obtain ⟨m, h1, h2, rfl, h4⟩ := lt_of h
  unfold bgN
  rw [if_neg (fun z => by have := (nI_eq (b := 82) (by omega) (by omega)).1 z.1; omega), if_neg (fun z => by have := (nI_eq (b := 69) (by omega) (by omega)).1 z.1; omega), if_neg (fun z => by have := (nI_eq (b := 67) (by omega) (by omega)).1 z.1; omega)]
theorem bg_le (rc ec cc : Nat) (c : Int32) : bgN rc ec cc c ≤ 3 := by
  unfold bgN
  repeat' split
  all_goals omega
theorem rd_both {n : Nat} {lt : Nat → Int32} (hn : n ≤ 60) : ∀ (m x F F' rc ec cc pc k g : Nat) (rts ens : Nat → Nat) (sgs : Nat → Int32) (h q : Hp), m < F → m < F' → x + m = n → pc ≤ x → IV rc ec cc pc k g rts ens sgs → TXc h n lt → TXm q n lt → CT h rc ec cc pc k g rts ens sgs → MT q rc ec cc pc k g rts ens sgs →
    ∃ v w h' q', f_X3_read_6 1 F (nI x) h = some h' ∧ f_X7_readText_32 41 F' (nI k) (nI g) (nI x) q = some (v, q') ∧ h'.1 1 9 = v ∧ h'.1 1 10 = w ∧ q'.1 41 21 = w ∧ Sc h h' ∧ Sc q q' ∧
      (v = -9 → Sm q q' ∧ ∃ rc ec cc pc k g rts ens sgs, IV rc ec cc pc k g rts ens sgs ∧ ndB k g = false ∧ CT h' rc ec cc pc k g rts ens sgs ∧ MT q' rc ec cc pc k g rts ens sgs) := by
  intro m
  induction m with
  | zero =>
    intro x F F' rc ec cc pc k g rts ens sgs h q hF hF' hx hp I T U A B
    obtain ⟨F, rfl⟩ : ∃ m, F = m + 1 := ⟨F - 1, by omega⟩
    obtain ⟨F', rfl⟩ : ∃ m, F' = m + 1 := ⟨F' - 1, by omega⟩
    have hk := I.2.2.2.2.1
    have hg := I.2.2.2.2.2.1
    have e1 := A.2.2.2.2.1
    have e2 := A.2.2.2.2.2.1
    have e8 := A.2.2.2.1
    rw [s_X3_read_6, s_X7_readText_32]
    unfold g_X3_read_6 g_X7_readText_32 g_X3_read_132
    rw [T.1, U.1, if_pos (by rw [nI_leI (by omega) (by omega)]; omega), if_pos (by rw [nI_leI (by omega) (by omega)]; omega), p_need hk hg e1 e2, bnd_s, ifb, q_may hk hg, bnd_s, ifb]
    by_cases z : ndB k g = true
    · have A2 := CT_fr A (h.1 1 1) (f := 9) (Or.inl rfl)
      rw [if_pos z, p_need hk hg A2.2.2.2.2.1 A2.2.2.2.2.2.1, bnd_s, ifb, if_pos z, z]
      have B4 := B.2.2.2.1
      refine ⟨nI n, nI pc - 1, _, _, rfl, by rw [if_neg (by decide), rI_k _ _ (by decide), U.1], ?_, ?_, ?_, ?_, ?_, fun w => absurd w (ne9 (by omega))⟩
      · rw [rI_k _ _ (by decide), rI_at]; exact T.1
      · rw [rI_at, rI_k _ _ (by decide), e8]
      · rw [rI_at, B4]
      · exact Sc_tr (Sc_t _ _ (by decide)) (Sc_t _ _ (by decide))
      · exact Sc_m _ _ (by decide)
    · have A2 := CT_fr A (-9) (f := 9) (Or.inl rfl)
      rw [if_neg z, p_need hk hg A2.2.2.2.2.1 A2.2.2.2.2.2.1, bnd_s, ifb, if_neg z, bfalse z]
      refine ⟨-9, -9, _, q, rfl, rfl, ?_, ?_, U.2.2, ?_, Sc_rf q, fun _ => ⟨Sm_rf q, rc, ec, cc, pc, k, g, rts, ens, sgs, I, bfalse z, CT_fr A2 _ (Or.inr rfl), B⟩⟩
      · rw [rI_k _ _ (by decide), rI_at]
      · rw [rI_at]
      · exact Sc_tr (Sc_t _ _ (by decide)) (Sc_t _ _ (by decide))
  | succ m ih =>
    intro x F F' rc ec cc pc k g rts ens sgs h q hF hF' hx hp I T U A B
    obtain ⟨F, rfl⟩ : ∃ m, F = m + 1 := ⟨F - 1, by omega⟩
    obtain ⟨F', rfl⟩ : ∃ m, F' = m + 1 := ⟨F' - 1, by omega⟩
    have hk := I.2.2.2.2.1
    have hg := I.2.2.2.2.2.1
    have e1 := A.2.2.2.2.1
    have e2 := A.2.2.2.2.2.1
    have e8 := A.2.2.2.1
    have m8 := B.2.2.2.1
    have hxn : x < n := by omega
    rw [s_X3_read_6, s_X7_readText_32, wi_flow _ hn hxn hk hg T e1 e2]
    have cl : ∀ (b : Bool), g_X3_read_45 1 (f_X3_read_6 1 F) (nI x) (b01 b) h = bnd (if b = true then f_X3_goOnWith 1 (lt x) h else f_X3_beginPart 1 (lt x) h) (fun r h1 => g_X3_read_91 1 (f_X3_read_6 1 F) (nI x) (if b = true then nI pc - 1 else nI pc) r h1) := by
      intro b
      unfold g_X3_read_45
      cases b
      · rw [ifb, if_neg (by decide)]
        unfold g_X3_read_63
        rw [ifb, if_neg (by decide), R1_0, N_2, if_pos (okI_n (by omega) (by decide)), nI_clamp (by omega), T.2 x hxn, e8, if_neg (by decide), if_neg (by decide)]
      · rw [ifb, if_pos rfl]
        unfold g_X3_read_63
        rw [ifb, if_pos rfl, R1_0, N_2, if_pos (okI_n (by omega) (by decide)), nI_clamp (by omega), T.2 x hxn, e8, if_pos rfl, if_pos rfl]
    have stop : ∀ (y : Int32) (h1 : Hp), g_X3_read_91 1 (f_X3_read_6 1 F) (nI x) y 0 h1 = some (sI (sI h1 1 9 (nI x)) 1 10 y) := fun y h1 => rfl
    have goon : ∀ (y : Int32) (h1 : Hp), g_X3_read_91 1 (f_X3_read_6 1 F) (nI x) y 1 h1 = f_X3_read_6 1 F (nI (x + 1)) h1 := fun y h1 => by
      show f_X3_read_6 1 F (nI x + 1) h1 = _
      rw [L1, nI_add]
    have mstop : ∀ (y : Int32) (h1 q1 : Hp) (s1 : Sc h h1) (s2 : Sc q q1), ∃ v w h' q', some (sI (sI h1 1 9 (nI x)) 1 10 y) = some h' ∧ some (nI x, sI q1 41 21 y) = some (v, q') ∧ h'.1 1 9 = v ∧ h'.1 1 10 = w ∧ q'.1 41 21 = w ∧ Sc h h' ∧ Sc q q' ∧ (v = -9 → Sm q q' ∧ ∃ rc ec cc pc k g rts ens sgs, IV rc ec cc pc k g rts ens sgs ∧ ndB k g = false ∧ CT h' rc ec cc pc k g rts ens sgs ∧ MT q' rc ec cc pc k g rts ens sgs) := by
      intro y h1 q1 s1 s2
      refine ⟨nI x, y, _, _, rfl, rfl, ?_, ?_, ?_, ?_, ?_, fun w => absurd w (ne9 (by omega))⟩
      · rw [rI_k _ _ (by decide), rI_at]
      · rw [rI_at]
      · rw [rI_at]
      · exact Sc_tr s1 (Sc_tr (Sc_t _ _ (by decide)) (Sc_t _ _ (by decide)))
      · exact Sc_tr s2 (Sc_m _ _ (by decide))
    have next : ∀ (rc ec cc pc k g : Nat) (rts ens : Nat → Nat) (sgs : Nat → Int32) (h1 q1 : Hp) (s1 : Sc h h1) (s2 : Sm q q1), pc ≤ x + 1 → IV rc ec cc pc k g rts ens sgs → CT h1 rc ec cc pc k g rts ens sgs → MT q1 rc ec cc pc k g rts ens sgs →
        ∃ v w h' q', f_X3_read_6 1 F (nI (x + 1)) h1 = some h' ∧ f_X7_readText_32 41 F' (nI k) (nI g) (nI (x + 1)) q1 = some (v, q') ∧ h'.1 1 9 = v ∧ h'.1 1 10 = w ∧ q'.1 41 21 = w ∧ Sc h h' ∧ Sc q q' ∧ (v = -9 → Sm q q' ∧ ∃ rc ec cc pc k g rts ens sgs, IV rc ec cc pc k g rts ens sgs ∧ ndB k g = false ∧ CT h' rc ec cc pc k g rts ens sgs ∧ MT q' rc ec cc pc k g rts ens sgs) := by
      intro rc ec cc pc k g rts ens sgs h1 q1 s1 s2 hp I A B
      obtain ⟨v, w, h', q', y1, y2, y3, y4, y5, y6, y7, y8⟩ := ih (x + 1) F F' rc ec cc pc k g rts ens sgs h1 q1 (by omega) (by omega) (by omega) hp I (TXc_s s1 T) (TXm_s s2 U) A B
      exact ⟨v, w, h', q', y1, y2, y3, y4, y5, Sc_tr s1 y6, Sc_tr (Sm_Sc s2) y7, fun z => ⟨Sm_tr s2 (y8 z).1, (y8 z).2⟩⟩
    unfold g_X7_readText_32
    rw [U.1, if_neg (show ¬ nI n ≤ nI x by rw [nI_leI (by omega) (by omega)]; omega), q_may hk hg, bnd_s, ifb, R41_0, N_42, if_pos (okI_n (by omega) (by decide)), nI_clamp (by omega), U.2.1 x hxn, q_begun I.1 I.2.1 I.2.2.1 B.1 B.2.1 B.2.2.1, bnd_s, cl]
    have tk : ∀ b : Bool, ∀ q1 : Hp, TXm q1 n lt → g_X7_readText_66 41 (f_X7_readText_32 41 F') (nI k) (nI g) (nI x) (b01 b) 0 q1 = bnd (f_X7_take 41 (nI k) (nI g) (lt x) q1) (fun r11 h10 => (if r11 = 0 then (if b01 b = 0 then g_X7_readText_135 41 (nI x) h10 else (if nI k = (1 : Int32) then g_X7_readText_123 41 (nI x) h10 else (if nI k = (2 : Int32) then g_X7_readText_123 41 (nI x) h10 else g_X7_readText_139 41 (nI x) h10))) else g_X7_readText_166 41 (f_X7_readText_32 41 F') (nI k) (nI g + 1) (nI x) h10)) := by
      intro b q1 U1
      unfold g_X7_readText_66
      rw [if_pos (by decide), R41_0, N_42, if_pos (okI_n (by omega) (by decide)), nI_clamp (by omega), U1.2.1 x hxn]
    have e166 : ∀ (a b : Nat) (q1 : Hp), g_X7_readText_166 41 (f_X7_readText_32 41 F') (nI a) (nI b) (nI x) q1 = f_X7_readText_32 41 F' (nI a) (nI b) (nI (x + 1)) q1 := fun a b q1 => by
      unfold g_X7_readText_166; rw [L1, nI_add]
    by_cases z : ndB k g = true
    · have hk0 : k ≠ 0 := fun w => by subst w; revert z; unfold ndB; simp
      have h3 : k = 3 → g < 4 := fun w => by
        subst w; unfold ndB at z; rw [if_neg (by decide)] at z; exact (of_decide_eq_true z).2
      have hw : wiB k g (lt x) = true := by unfold wiB; rw [z]; rfl
      obtain ⟨r, h1, p1, p2, p3, p4⟩ := p_go (c := lt x) I A hk0 h3
      obtain ⟨r', q1, p5, p6, p9, p7, p8⟩ := q_take (c := lt x) I B hk0 h3
      rw [hw, if_pos rfl, if_pos rfl, p1, bnd_s, z, if_neg (by decide), tk _ _ U, p5, bnd_s]
      cases ho : goO rc ec cc pc k g rts ens sgs (lt x) with
      | none =>
        rw [p3 ho, p7 ho, stop, if_pos (show (0 : Int32) = 0 from rfl), if_pos (show (b01 !true) = 0 from rfl)]
        show ∃ v w h' q', _ ∧ some (nI x, sI q1 41 21 (q1.1 41 20 - 1)) = _ ∧ _
        rw [p9, m8]
        exact mstop _ _ _ p2 (Sm_Sc p6)
      | some s =>
        obtain ⟨rc', ec', cc', pc', k', g', rts', ens', sgs'⟩ := s
        obtain ⟨a1, a2⟩ := p4 _ ho
        obtain ⟨b1, b2⟩ := p8 _ ho
        have I2 := IV_go I hk0 h3 ho
        obtain ⟨u1, u2, u3⟩ := go_k ho
        rw [a1, b1, goon, if_neg (show ¬ (1 : Int32) = 0 by decide), L1, nI_add, e166, ← u1, ← u2]
        exact next rc' ec' cc' pc' k' g' rts' ens' sgs' h1 q1 p2 p6 (by omega) I2 a2 b2
    · have z := bfalse z
      by_cases zl : (k = 1 ∨ k = 2) ∧ ltB (lt x) = true
      · have hw : wiB k g (lt x) = true := by unfold wiB; rw [z, zl.2, decide_eq_true zl.1]; rfl
        have hb : bgN rc ec cc (lt x) = 0 := bg_let zl.2
        have hk0 : k ≠ 0 := by omega
        have h3 : k = 3 → g < 4 := by omega
        obtain ⟨r, h1, p1, p2, p3, p4⟩ := p_go (c := lt x) I A hk0 h3
        obtain ⟨r', q1, p5, p6, p9, p7, p8⟩ := q_take (c := lt x) I B hk0 h3
        have U1 := TXm_s p6 U
        have e123 : g_X7_readText_123 41 (nI x) q1 = some (nI x, sI q1 41 21 (nI pc - 1)) := by
          unfold g_X7_readText_123
          rw [R41_0, N_42, if_pos (okI_n (by omega) (by decide)), nI_clamp (by omega), U1.2.1 x hxn, q_isL, zl.2, bnd_s, if_neg (by decide)]
          show some (nI x, sI q1 41 21 (q1.1 41 20 - 1)) = _
          rw [p9, m8]
        rw [hw, if_pos rfl, if_pos rfl, p1, bnd_s, z, if_pos (show (!false) = true from rfl), hb, ← L0, tk _ _ U, p5, bnd_s]
        cases ho : goO rc ec cc pc k g rts ens sgs (lt x) with
        | none =>
          rw [p3 ho, p7 ho, stop, if_pos (show (0 : Int32) = 0 from rfl), if_neg (show ¬ (b01 !false) = 0 by decide), e123]
          have : (if nI k = (1 : Int32) then some (nI x, sI q1 41 21 (nI pc - 1)) else if nI k = (2 : Int32) then some (nI x, sI q1 41 21 (nI pc - 1)) else g_X7_readText_139 41 (nI x) q1) = some (nI x, sI q1 41 21 (nI pc - 1)) := by
            rcases zl.1 with rfl | rfl <;> rfl
          rw [this]
          exact mstop _ _ _ p2 (Sm_Sc p6)
        | some s =>
          obtain ⟨rc', ec', cc', pc', k', g', rts', ens', sgs'⟩ := s
          obtain ⟨a1, a2⟩ := p4 _ ho
          obtain ⟨b1, b2⟩ := p8 _ ho
          have I2 := IV_go I hk0 h3 ho
          obtain ⟨u1, u2, u3⟩ := go_k ho
          rw [a1, b1, goon, if_neg (show ¬ (1 : Int32) = 0 by decide), L1, nI_add, e166, ← u1, ← u2]
          exact next rc' ec' cc' pc' k' g' rts' ens' sgs' h1 q1 p2 p6 (by omega) I2 a2 b2
      · have hw : wiB k g (lt x) = false := by
          unfold wiB
          rw [z, Bool.false_or]
          cases w1 : decide (k = 1 ∨ k = 2) with
          | false => rfl
          | true =>
            cases w2 : ltB (lt x) with
            | false => rfl
            | true => exact absurd ⟨of_decide_eq_true w1, w2⟩ zl
        obtain ⟨r, h1, p1, p2, p3, p4⟩ := p_be (c := lt x) I z A
        rw [hw, if_neg (by decide), if_neg (by decide), p1, bnd_s, z, if_pos (show (!false) = true from rfl)]
        by_cases hb : bgN rc ec cc (lt x) = 0
        · have ho := be_none (pc := pc) (rts := rts) (ens := ens) (sgs := sgs) hb
          have t0 : f_X7_take 41 (nI k) (nI g) (lt x) q = some (0, q) := q_take0 hk hg (by
            by_cases w0 : k = 0
            · exact Or.inl w0
            · by_cases w3 : k = 3
              · refine Or.inr (Or.inl ⟨w3, ?_⟩)
                subst w3
                unfold ndB at z
                rw [if_neg (by decide)] at z
                have := of_decide_eq_false z
                omega
              · exact Or.inr (Or.inr ⟨w3, bfalse (fun w => zl ⟨by omega, w⟩)⟩))
          have e139 : g_X7_readText_139 41 (nI x) q = some (nI x, sI q 41 21 (nI pc)) := by
            show some (nI x, sI q 41 21 (q.1 41 20)) = _
            rw [m8]
          have e123 : (k = 1 ∨ k = 2) → g_X7_readText_123 41 (nI x) q = some (nI x, sI q 41 21 (nI pc)) := fun w => by
            unfold g_X7_readText_123
            rw [R41_0, N_42, if_pos (okI_n (by omega) (by decide)), nI_clamp (by omega), U.2.1 x hxn, q_isL, bfalse (fun y => zl ⟨w, y⟩), bnd_s, if_pos (by decide)]
            exact e139
          rw [p3 ho, stop, hb, ← L0, tk _ _ U, t0, bnd_s, if_pos (show (0 : Int32) = 0 from rfl), if_neg (show ¬ (b01 !false) = 0 by decide)]
          have : (if nI k = (1 : Int32) then g_X7_readText_123 41 (nI x) q else if nI k = (2 : Int32) then g_X7_readText_123 41 (nI x) q else g_X7_readText_139 41 (nI x) q) = some (nI x, sI q 41 21 (nI pc)) := by
            by_cases w1 : k = 1
            · subst w1; rw [if_pos (show nI 1 = (1 : Int32) from rfl)]; exact e123 (Or.inl rfl)
            · rw [if_neg (by rw [L1, nI_eq (by omega) (by omega)]; exact w1)]
              by_cases w2 : k = 2
              · subst w2; rw [if_pos (show nI 2 = (2 : Int32) from rfl)]; exact e123 (Or.inr rfl)
              · rw [if_neg (by rw [L2, nI_eq (by omega) (by omega)]; exact w2)]; exact e139
          rw [this]
          exact mstop _ _ _ p2 (Sc_rf q)
        · obtain ⟨q1, s, y1, y2, ho, y3, y4, y5⟩ := q_begin (c := lt x) I z B hb
          obtain ⟨rc', ec', cc', pc', k', g', rts', ens', sgs'⟩ := s
          obtain ⟨a1, a2⟩ := p4 _ ho
          obtain ⟨I2, ep⟩ := IV_be I (by omega) z ho
          have hbl := bg_le rc ec cc (lt x)
          have y3 : k' = bgN rc ec cc (lt x) := y3
          have y4 : g' = 0 := y4
          have e66 : g_X7_readText_66 41 (f_X7_readText_32 41 F') (nI k) (nI g) (nI x) (b01 !false) (nI (bgN rc ec cc (lt x))) q = f_X7_readText_32 41 F' (nI k') (nI g') (nI (x + 1)) q1 := by
            unfold g_X7_readText_66
            rw [if_neg (by rw [L0, nI_leI (by omega) (by omega)]; omega), y1, bind_s, L0, e166, y3, y4]
          rw [a1, goon, e66]
          exact next rc' ec' cc' pc' k' g' rts' ens' sgs' h1 q1 p2 y2 (by omega) I2 a2 y5
