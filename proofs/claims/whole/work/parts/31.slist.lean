theorem p_l54 (h : Hp) : f_X6_list_54 0 FU 0 h = some (h.1 1 8, sI (sI h 30 0 0) 30 1 0) := rfl
theorem st_list {h : Hp} (H : Rel h) : St (f_X6_list 0) (f_X7_list 41) h := by
  have H0 := H
  obtain ⟨C, hW, hS, hT, hG, hK, ⟨n0, fd, xd, -, hfd, hxd, -, d4, -, d6, -⟩, hZ⟩ := H
  obtain ⟨n, hn, t1, t2, t3⟩ := id hT
  obtain ⟨h1, r1, r2, r3⟩ := rd_text hn t1
  have eT : f_X6_list 0 h = (if (h1.1 1 9) = (-9 : Int32) then ((f_X2_takeFrom 6 1 h1).bind (fun h8 => ((f_X4_beginWith 9 1 h8).bind (fun h11 => f_X6_list_54 0 FU (0 : Int32) (sI h11 31 5 (0 : Int32)))))) else (some ((-3 : Int32), h1))) := by
    unfold f_X6_list
    rw [R0_0, R0_1, R0_2, R0_6, r1, bind_s]
  by_cases q : h1.1 1 9 = -9
  · obtain ⟨hA, eA⟩ : ∃ hA, hA = sI (sI (sA (sA h1 7 (va_cpy (h1.1 3) (h1.1 7) 0 0 4)) 8 (va_cpy (h1.1 4) (h1.1 8) 0 0 3)) 6 2 (h1.1 1 5)) 6 3 (h1.1 1 6) := ⟨_, rfl⟩
    obtain ⟨o, f, o1, f1, ebw⟩ := p_bw hA
    obtain ⟨hD, eD⟩ : ∃ hD, hD = sI (sI (sI (sA (sA (sI (sA hA 10 (va_cpy (hA.1 5) (hA.1 10) 0 0 16)) 9 5 (hA.1 1 7)) 11 o) 12 f) 31 5 0) 30 0 0) 30 1 0 := ⟨_, rfl⟩
    rw [if_pos q, p_takeFrom, ← eA, bind_s, ebw, bind_s, p_l54, ← eD] at eT
    have A0 : ∀ i, i ≠ 6 → i ≠ 7 → i ≠ 8 → hA.1 i = h1.1 i := fun i a b c => by rw [eA, rI_ne _ _ a, rI_ne _ _ a, sA_ne _ _ c, sA_ne _ _ b]
    have D0 : ∀ i, i ≠ 9 → i ≠ 10 → i ≠ 11 → i ≠ 12 → i ≠ 31 → i ≠ 30 → hD.1 i = hA.1 i := fun i a b c d e g => by
      rw [eD, rI_ne _ _ g, rI_ne _ _ g, rI_ne _ _ e, sA_ne _ _ d, sA_ne _ _ c, rI_ne _ _ a, sA_ne _ _ b]
    obtain ⟨q', y1, y2, y3, y4⟩ := r3 hD (by rw [D0 41 (by decide) (by decide) (by decide) (by decide) (by decide) (by decide), A0 41 (by decide) (by decide) (by decide), r2.2.2.2 1 (by decide)]; exact t2) (fun j hj => by rw [D0 42 (by decide) (by decide) (by decide) (by decide) (by decide) (by decide), A0 42 (by decide) (by decide) (by decide), r2.2.1 42 (by decide) (by decide) (by decide)]; exact (t3 j hj).symm)
    obtain ⟨Q0, rc, ec, cc, pc, k, g, rts, ens, sgs, I, hnd, A, B⟩ := y4 q
    have nf := nsG_full I hnd
    obtain ⟨a1, a2, a3, a4, a5, a6, a7, a8, a9⟩ := A
    obtain ⟨b1, b2, b3, b4, b7, b8, b9⟩ := B
    rw [nf] at a9 b9
    obtain ⟨i1, i2, i3, i4, i5, i6, i7, i8, i9, i10, i11, i12, i13⟩ := I
    rw [nf] at i13
    have ensP : ∀ j, j < ec → 0 < ens j := by
      intro j hj
      refine (i12 j hj).2.resolve_right (fun z => ?_)
      unfold ndB at hnd
      rw [if_pos (Or.inr z.1)] at hnd
      exact absurd z.2.2 (of_decide_eq_false hnd)
    obtain ⟨h3, e3⟩ : ∃ h3, h3 = sI (sI (sI q' 41 11 (nI rc)) 41 12 (nI ec)) 41 13 (nI cc) := ⟨_, rfl⟩
    have c0 : ∀ i, i ≠ 41 → h3.1 i = q'.1 i := fun i a => by rw [e3, rI_ne _ _ a, rI_ne _ _ a, rI_ne _ _ a]
    have c11 : h3.1 41 11 = nI rc := by rw [e3]; simp [rI]
    have c12 : h3.1 41 12 = nI ec := by rw [e3]; simp [rI]
    have c13 : h3.1 41 13 = nI cc := by rw [e3]; simp [rI]
    have cO : ∀ j, j ≠ 11 → j ≠ 12 → j ≠ 13 → h3.1 41 j = q'.1 41 j := fun j a b c => by rw [e3, rI_k _ _ c, rI_k _ _ b, rI_k _ _ a]
    obtain ⟨f1', k1, k2⟩ := q_l38 (h := h3) i1 c11 rc FU 0 (h3.1 48) (by unfold FU; omega) (by omega) (fun j hj => absurd hj (by omega))
    rw [sA_self] at k2
    obtain ⟨f2', l1, l2⟩ := q_l66 (h := sA h3 48 f1') i2 (by rw [sA_ne _ _ (by decide)]; exact c12) ec FU 0 ((sA h3 48 f1').1 49) (by unfold FU; omega) (by omega) (fun j hj => absurd hj (by omega))
    rw [sA_self] at l2
    obtain ⟨f3', m1, m2⟩ := q_l94 (h := sA (sA h3 48 f1') 49 f2') i3 (by rw [sA_ne _ _ (by decide), sA_ne _ _ (by decide)]; exact c13) cc FU 0 ((sA (sA h3 48 f1') 49 f2').1 43) (by unfold FU; omega) (by omega) (fun j hj => absurd hj (by omega))
    rw [sA_self] at m2
    obtain ⟨f4, p1, p2, p3, p4⟩ := q_l117 (h := sA (sA h3 48 f1') 49 f2') i3 (by rw [sA_ne _ _ (by decide), sA_ne _ _ (by decide)]; exact c13) (4 * cc) FU 0 f3' (by unfold FU; omega) (by omega) (fun j hj => absurd hj (by omega))
    obtain ⟨hF, eF⟩ : ∃ hF, hF = sI (sI (sI (sA (sA (sA h3 48 f1') 49 f2') 43 f4) 41 5 0) 47 0 0) 47 1 0 := ⟨_, rfl⟩
    have eM : f_X7_list 41 hD = some (nI pc, hF) := by
      unfold f_X7_list
      rw [y1, bnd_s, if_pos q, b1, rI_k _ _ (by decide), b2, rI_k _ _ (by decide), rI_k _ _ (by decide), b3, ← e3, L0, k2, L0, l2, L0, m2, L0, p4, ← eF, sA_ne _ _ (by decide), sA_ne _ _ (by decide), cO 20 (by decide) (by decide) (by decide), b4]
    have F0 : ∀ i, i ≠ 41 → i ≠ 43 → i ≠ 47 → i ≠ 48 → i ≠ 49 → hF.1 i = q'.1 i := fun i a b c d e => by
      rw [eF, rI_ne _ _ c, rI_ne _ _ c, rI_ne _ _ a, sA_ne _ _ b, sA_ne _ _ e, sA_ne _ _ d, c0 i a]
    have FD : ∀ i, decide (i ≠ 41 ∧ i ≠ 43 ∧ i ≠ 47 ∧ i ≠ 48 ∧ i ≠ 49 ∧ i ≠ 50 ∧ i ≠ 51 ∧ i ≠ 52) = true → hF.1 i = hD.1 i := fun i z => by
      have z := of_decide_eq_true z
      rw [F0 i z.1 z.2.1 z.2.2.1 z.2.2.2.1 z.2.2.2.2.1, Q0 i z.1 z.2.2.2.2.2.1 z.2.2.2.2.2.2.1 z.2.2.2.2.2.2.2]
    have FH : ∀ i, decide ((i ≠ 41 ∧ i ≠ 43 ∧ i ≠ 47 ∧ i ≠ 48 ∧ i ≠ 49 ∧ i ≠ 50 ∧ i ≠ 51 ∧ i ≠ 52) ∧ (i ≠ 9 ∧ i ≠ 10 ∧ i ≠ 11 ∧ i ≠ 12 ∧ i ≠ 31 ∧ i ≠ 30) ∧ (i ≠ 6 ∧ i ≠ 7 ∧ i ≠ 8) ∧ i ∉ scA ∧ i ≠ 1) = true → hF.1 i = h.1 i := fun i z => by
      have z := of_decide_eq_true z
      rw [FD i (decide_eq_true z.1), D0 i z.2.1.1 z.2.1.2.1 z.2.1.2.2.1 z.2.1.2.2.2.1 z.2.1.2.2.2.2.1 z.2.1.2.2.2.2.2, A0 i z.2.2.1.1 z.2.2.1.2.1 z.2.2.1.2.2, r2.2.1 i z.2.2.2.1 z.2.2.2.2 z.1.1]
    have F41 : ∀ j, j ≠ 5 → hF.1 41 j = h3.1 41 j := fun j a => by
      rw [eF, rI_ne _ _ (by decide), rI_ne _ _ (by decide), rI_k _ _ a, sA_ne _ _ (by decide), sA_ne _ _ (by decide), sA_ne _ _ (by decide)]
    have F41h : ∀ j, j ≠ 5 → j ≠ 11 → j ≠ 12 → j ≠ 13 → (j < 17 ∨ 21 < j) → hF.1 41 j = h.1 41 j := fun j a b c d e => by
      rw [F41 j a, cO j b c d, y3.2.2.2 j e, D0 41 (by decide) (by decide) (by decide) (by decide) (by decide) (by decide), A0 41 (by decide) (by decide) (by decide), r2.2.2.2 j e]
    have F43 : hF.1 43 = f4 := by rw [eF, rI_ne _ _ (by decide), rI_ne _ _ (by decide), rI_ne _ _ (by decide), sA_at]
    have F11 : hF.1 11 = o := by rw [FD 11 rfl, eD, rI_ne _ _ (by decide), rI_ne _ _ (by decide), rI_ne _ _ (by decide), sA_ne _ _ (by decide), sA_at]
    have F12 : hF.1 12 = f := by rw [FD 12 rfl, eD, rI_ne _ _ (by decide), rI_ne _ _ (by decide), rI_ne _ _ (by decide), sA_at]
    have F10 : ∀ j, j < 16 → hF.1 10 j = h1.1 5 j := fun j hj => by
      rw [FD 10 rfl, eD, rI_ne _ _ (by decide), rI_ne _ _ (by decide), rI_ne _ _ (by decide), sA_ne _ _ (by decide), sA_ne _ _ (by decide), rI_ne _ _ (by decide), sA_at, cpy_lt hj, A0 5 (by decide) (by decide) (by decide)]
    have F95 : hF.1 9 5 = nI cc := by
      rw [FD 9 rfl, eD, rI_ne _ _ (by decide), rI_ne _ _ (by decide), rI_ne _ _ (by decide), sA_ne _ _ (by decide), sA_ne _ _ (by decide), rI_at, A0 1 (by decide) (by decide) (by decide), a3]
    have F7 : ∀ j, j < 4 → hF.1 7 j = h1.1 3 j := fun j hj => by
      rw [FD 7 rfl, D0 7 (by decide) (by decide) (by decide) (by decide) (by decide) (by decide), eA, rI_ne _ _ (by decide), rI_ne _ _ (by decide), sA_ne _ _ (by decide), sA_at, cpy_lt hj]
    have F8 : ∀ j, j < 3 → hF.1 8 j = h1.1 4 j := fun j hj => by
      rw [FD 8 rfl, D0 8 (by decide) (by decide) (by decide) (by decide) (by decide) (by decide), eA, rI_ne _ _ (by decide), rI_ne _ _ (by decide), sA_at, cpy_lt hj]
    have F6 : hF.1 6 2 = nI rc ∧ hF.1 6 3 = nI ec := by
      rw [FD 6 rfl, D0 6 (by decide) (by decide) (by decide) (by decide) (by decide) (by decide), eA]
      exact ⟨by rw [rI_k _ _ (by decide), rI_at, a1], by rw [rI_at, a2]⟩
    have F48 : hF.1 48 = f1' := by rw [eF, rI_ne _ _ (by decide), rI_ne _ _ (by decide), rI_ne _ _ (by decide), sA_ne _ _ (by decide), sA_ne _ _ (by decide), sA_at]
    have F49 : hF.1 49 = f2' := by rw [eF, rI_ne _ _ (by decide), rI_ne _ _ (by decide), rI_ne _ _ (by decide), sA_ne _ _ (by decide), sA_at]
    have F31 : hF.1 31 5 = 0 ∧ hF.1 31 4 = h.1 31 4 := by
      rw [FD 31 rfl, eD, rI_ne _ _ (by decide), rI_ne _ _ (by decide)]
      refine ⟨by rw [rI_at], ?_⟩
      rw [rI_k _ _ (by decide), sA_ne _ _ (by decide), sA_ne _ _ (by decide), rI_ne _ _ (by decide), sA_ne _ _ (by decide), A0 31 (by decide) (by decide) (by decide), r2.2.1 31 (by decide) (by decide) (by decide)]
    have F30 : ∀ j, j < 2 → hF.1 30 j = 0 := fun j hj => by
      rw [FD 30 rfl, eD]
      rcases (show j = 0 ∨ j = 1 by omega) with rfl | rfl
      · rw [rI_k _ _ (by decide), rI_at]
      · rw [rI_at]
    have F47 : ∀ j, j < 2 → hF.1 47 j = 0 := fun j hj => by
      rw [eF]
      rcases (show j = 0 ∨ j = 1 by omega) with rfl | rfl
      · rw [rI_k _ _ (by decide), rI_at]
      · rw [rI_at]
    refine ⟨nI pc, hD, hF, ?_, eM, cc, ⟨i3, F95, ?_, ⟨fun i hi => ?_, fun c hc => ?_⟩, ⟨fun i hi => ?_, fun i hi => ?_, fun i hi => ?_⟩⟩, ⟨rc, ec, rts, ens, ⟨i1, i2, F6.1, F6.2, fun j hj => ?_, fun j hj => ?_⟩, ⟨i1, i2, ?_, ?_, fun j hj => ?_, fun j hj => ?_⟩⟩, ?_, ?_, ?_, ?_, ?_⟩
    · rw [eT, rI_ne _ _ (show (1 : Nat) ≠ 31 by decide), sA_ne _ _ (show (1 : Nat) ≠ 12 by decide), sA_ne _ _ (show (1 : Nat) ≠ 11 by decide), rI_ne _ _ (show (1 : Nat) ≠ 9 by decide), sA_ne _ _ (show (1 : Nat) ≠ 10 by decide), A0 1 (by decide) (by decide) (by decide), a4]
    · rw [F41 13 (by decide)]; exact c13
    · exact ⟨i, hi, by show hF.1 11 i = _; rw [F11]; exact o1 i (by omega)⟩
    · obtain ⟨t, ht, e⟩ := i13 (c * 4 + 1) (by omega) (by omega)
      exact ⟨t, ht, by show hF.1 10 _ = _; rw [F10 _ (by omega), a9 _ (by omega)]; exact e⟩
    · show hF.1 11 i = hF.1 43 i
      rw [F11, F43, o1 i (by omega), p2 i (by omega), m1 i hi]
    · show hF.1 10 i = hF.1 43 (4 + i)
      rw [F10 i (by omega), F43, p1 i hi, sA_ne _ _ (by decide), sA_ne _ _ (by decide), c0 52 (by decide), b9 i hi, a9 i hi]
    · show hF.1 12 i = hF.1 43 (20 + i)
      rw [F12, F43, f1 i hi, p3 _ (by omega) (by omega)]
    · exact ⟨by rw [F7 j (by omega)]; exact a7 j hj, i11 j hj⟩
    · exact ⟨by rw [F8 j (by omega)]; exact a8 j hj, ensP j hj, (i12 j hj).1⟩
    · rw [F41 11 (by decide)]; exact c11
    · rw [F41 12 (by decide)]; exact c12
    · exact ⟨by rw [F48, k1 j hj, c0 50 (by decide)]; exact b7 j hj, i11 j hj⟩
    · exact ⟨by rw [F49, l1 j hj, sA_ne _ _ (by decide), c0 51 (by decide)]; exact b8 j hj, ensP j hj, (i12 j hj).1⟩
    · refine RlT_c hT ?_ ?_ (FH _ rfl) (FH _ rfl)
      · rw [FD 1 rfl, D0 1 (by decide) (by decide) (by decide) (by decide) (by decide) (by decide), A0 1 (by decide) (by decide) (by decide), r2.2.2.1]
      · exact F41h 1 (by decide) (by decide) (by decide) (by decide) (by decide)
    · refine RlG_c hG (by rw [FH 36 rfl]) (F41h 26 (by decide) (by decide) (by decide) (by decide) (by decide)) (FH _ rfl) (FH _ rfl) (FH _ rfl) (FH _ rfl) (FH _ rfl) (FH _ rfl) (FH _ rfl) (FH _ rfl)
    · intro j hj
      rw [F30 j hj, F47 j hj]
      exact ⟨rfl, Or.inl rfl⟩
    · refine ⟨0, fd, xd, by omega, hfd, hxd, F31.1, ?_, ?_, ?_, ⟨fun _ => _, rfl, fun j hj => absurd hj (by omega)⟩⟩
      · rw [F31.2]; exact d4
      · rw [eF, rI_ne _ _ (by decide), rI_ne _ _ (by decide), rI_at]; rfl
      · rw [F41h 6 (by decide) (by decide) (by decide) (by decide) (by decide)]; exact d6
    · have : hF.2 = h.2 := by
        have e1 : hF.2 = q'.2 := by rw [eF, e3]; rfl
        have e2 : hD.2 = h1.2 := by rw [eD, eA]; rfl
        rw [e1, y3.1, e2, r2.1]
      rw [this]; exact hZ
  · obtain ⟨q', y1, y2, y3, -⟩ := r3 h1 (by rw [r2.2.2.2 1 (by decide)]; exact t2) (fun j hj => by rw [r2.2.1 42 (by decide) (by decide) (by decide)]; exact (t3 j hj).symm)
    refine ⟨-3, h1, q', by rw [eT, if_neg q], ?_, Rel_Sc H0 (Sc_tr r2 y3)⟩
    unfold f_X7_list
    rw [y1, bnd_s, if_neg q]
