/-! the text is read -/
abbrev RSt : Type := Nat × Nat × Nat × Nat × Nat × Nat × (Nat → Nat) × (Nat → Nat) × (Nat → Int32)
def updN (f : Nat → Nat) (k v : Nat) : Nat → Nat := fun j => if j = k then v else f j
def ltB (c : Int32) : Bool := inI c 97 101
def cvN (c : Int32) : Nat := c.toNatClampNeg - 96
theorem lt_of {c : Int32} (h : ltB c = true) : ∃ m : Nat, 97 ≤ m ∧ m ≤ 101 ∧ c = nI m ∧ cvN c = m - 96 := by
  have h2 := of_decide_eq_true h
  obtain ⟨m, hm, rfl⟩ := nI_of (x := c) (fun z => by rw [Int32.lt_iff_toInt_lt] at z; have z2 : c.toInt < 0 := z; omega)
  rw [nI_toInt hm] at h2
  exact ⟨m, by omega, by omega, rfl, by unfold cvN; rw [nI_clamp hm]⟩
def svO (g : Nat) (c : Int32) : Option Nat := if ltB c = true then some (cvN c) else if g = 1 then (if c = 45 then some 0 else none) else if g = 0 then none else if c = 42 then some 6 else if c = 46 then some 7 else none
def ndB (k g : Nat) : Bool := if k = 1 ∨ k = 2 then decide (g = 0) else decide (k = 3 ∧ g < 4)
def wiB (k g : Nat) (c : Int32) : Bool := ndB k g || (decide (k = 1 ∨ k = 2) && ltB c)
def goO (rc ec cc pc k g : Nat) (rts ens : Nat → Nat) (sgs : Nat → Int32) (c : Int32) : Option RSt :=
  if k = 1 then (if g < 4 ∧ ltB c = true then some (rc, ec, cc, pc, k, g + 1, updN rts (rc - 1) (10 * rts (rc - 1) + cvN c), ens, sgs) else none)
  else if k = 2 then (if g < 2 ∧ ltB c = true then some (rc, ec, cc, pc, k, g + 1, rts, updN ens (ec - 1) (10 * ens (ec - 1) + cvN c), sgs) else none)
  else (svO g c).map (fun v => (rc, ec, cc, pc, k, g + 1, rts, ens, upd sgs (4 * (cc - 1) + g) (nI v)))
def beO (rc ec cc pc : Nat) (rts ens : Nat → Nat) (sgs : Nat → Int32) (c : Int32) : Option RSt :=
  if c = 82 ∧ rc < 4 then some (rc + 1, ec, cc, pc + 1, 1, 0, updN rts rc 0, ens, sgs)
  else if c = 69 ∧ ec < 3 then some (rc, ec + 1, cc, pc + 1, 2, 0, rts, updN ens ec 0, sgs)
  else if c = 67 ∧ cc < 4 then some (rc, ec, cc + 1, pc + 1, 3, 0, rts, ens, sgs) else none
def acO (rc ec cc pc k g : Nat) (rts ens : Nat → Nat) (sgs : Nat → Int32) (c : Int32) : Option RSt := if wiB k g c = true then goO rc ec cc pc k g rts ens sgs c else beO rc ec cc pc rts ens sgs c
def nsG (cc k g : Nat) : Nat := if k = 3 then 4 * (cc - 1) + g else 4 * cc
/-- what holds of a text that is being read -/
def IV (rc ec cc pc k g : Nat) (rts ens : Nat → Nat) (sgs : Nat → Int32) : Prop :=
  rc ≤ 4 ∧ ec ≤ 3 ∧ cc ≤ 4 ∧ pc < 1000 ∧ k < 4 ∧ g ≤ 4 ∧ (k = 1 → 1 ≤ rc ∧ rts (rc - 1) < 10 ^ g) ∧ (k = 2 → 1 ≤ ec ∧ g ≤ 2 ∧ ens (ec - 1) < 10 ^ g) ∧ (k = 3 → 1 ≤ cc) ∧ (k ≠ 0 → 1 ≤ pc) ∧ (∀ j, j < rc → rts j < 10000) ∧ (∀ j, j < ec → ens j < 100 ∧ (0 < ens j ∨ (k = 2 ∧ j = ec - 1 ∧ g = 0))) ∧ (∀ j, j < nsG cc k g → j % 4 = 1 → ∃ t : Nat, t < 10 ∧ sgs j = nI t)
theorem svO_lt {g : Nat} {c : Int32} {v : Nat} (h : svO g c = some v) : v < 10 := by
  unfold svO at h
  by_cases q : ltB c = true
  · obtain ⟨m, h1, h2, h3, h4⟩ := lt_of q
    rw [if_pos q] at h
    cases h
    omega
  · rw [if_neg q] at h
    repeat' split at h
    all_goals first | (cases h; done) | (cases h; omega)
theorem IV_go {rc ec cc pc k g : Nat} {rts ens : Nat → Nat} {sgs : Nat → Int32} {c : Int32} (I : IV rc ec cc pc k g rts ens sgs) (hk : k ≠ 0) (h3 : k = 3 → g < 4) {rc' ec' cc' pc' k' g' : Nat} {rts' ens' : Nat → Nat} {sgs' : Nat → Int32} (h : goO rc ec cc pc k g rts ens sgs c = some (rc', ec', cc', pc', k', g', rts', ens', sgs')) : IV rc' ec' cc' pc' k' g' rts' ens' sgs' := by
  obtain ⟨i1, i2, i3, i4, i5, i6, i7, i8, i9, i10, i11, i12, i13⟩ := I
  unfold goO at h
  by_cases q1 : k = 1
  · rw [if_pos q1] at h
    by_cases q : g < 4 ∧ ltB c = true
    · rw [if_pos q] at h
      cases h
      obtain ⟨m, m1, m2, m3, m4⟩ := lt_of q.2
      have hp : 10 ^ (g + 1) = 10 ^ g * 10 := Nat.pow_succ ..
      have hr := i7 q1
      have hb : 10 * rts (rc - 1) + cvN c < 10 ^ (g + 1) := by omega
      have hb4 : 10 ^ (g + 1) ≤ 10 ^ 4 := Nat.pow_le_pow_right (by decide) (by omega)
      refine ⟨i1, i2, i3, i4, i5, by omega, fun _ => ⟨hr.1, by simp only [updN, if_true]; exact hb⟩, fun z => absurd z (by omega), fun z => absurd z (by omega), i10, fun j hj => ?_, fun j hj => ?_, fun j hj hm => ?_⟩
      · simp only [updN]
        by_cases z : j = rc - 1
        · rw [if_pos z]; omega
        · rw [if_neg z]; exact i11 j hj
      · have := i12 j hj
        exact ⟨this.1, this.2.imp id (fun z => absurd z.1 (by omega))⟩
      · exact i13 j (by unfold nsG at hj ⊢; rw [if_neg (by omega)] at hj ⊢; exact hj) hm
    · rw [if_neg q] at h; cases h
  · rw [if_neg q1] at h
    by_cases q2 : k = 2
    · rw [if_pos q2] at h
      by_cases q : g < 2 ∧ ltB c = true
      · rw [if_pos q] at h
        cases h
        obtain ⟨m, m1, m2, m3, m4⟩ := lt_of q.2
        have hp : 10 ^ (g + 1) = 10 ^ g * 10 := Nat.pow_succ ..
        have hr := i8 q2
        have hb : 10 * ens (ec - 1) + cvN c < 10 ^ (g + 1) := by omega
        have hb4 : 10 ^ (g + 1) ≤ 10 ^ 2 := Nat.pow_le_pow_right (by decide) (by omega)
        refine ⟨i1, i2, i3, i4, i5, by omega, fun z => absurd z (by omega), fun _ => ⟨hr.1, by omega, by simp only [updN, if_true]; exact hb⟩, fun z => absurd z (by omega), i10, i11, fun j hj => ?_, fun j hj hm => ?_⟩
        · simp only [updN]
          by_cases z : j = ec - 1
          · rw [if_pos z]; exact ⟨by omega, Or.inl (by omega)⟩
          · rw [if_neg z]
            have := i12 j hj
            exact ⟨this.1, Or.inl (this.2.resolve_right (fun w => z w.2.1))⟩
        · exact i13 j (by unfold nsG at hj ⊢; rw [if_neg (by omega)] at hj ⊢; exact hj) hm
      · rw [if_neg q] at h; cases h
    · rw [if_neg q2] at h
      have q3 : k = 3 := by omega
      cases hv : svO g c with
      | none => rw [hv] at h; cases h
      | some v =>
        rw [hv] at h
        cases h
        have hl := svO_lt hv
        have hg := h3 q3
        refine ⟨i1, i2, i3, i4, i5, by omega, fun z => absurd z q1, fun z => absurd z q2, i9, i10, i11, fun j hj => ?_, fun j hj hm => ?_⟩
        · have := i12 j hj
          exact ⟨this.1, this.2.imp id (fun z => absurd z.1 q2)⟩
        · unfold nsG at hj i13
          rw [if_pos q3] at hj i13
          by_cases z : j = 4 * (cc - 1) + g
          · exact ⟨v, hl, by rw [z, upd_at]⟩
          · rw [upd_ne _ _ z]
            exact i13 j (by omega) hm
theorem IV_be {rc ec cc pc k g : Nat} {rts ens : Nat → Nat} {sgs : Nat → Int32} {c : Int32} (I : IV rc ec cc pc k g rts ens sgs) (hp : pc < 900) (hn : ndB k g = false) {rc' ec' cc' pc' k' g' : Nat} {rts' ens' : Nat → Nat} {sgs' : Nat → Int32} (h : beO rc ec cc pc rts ens sgs c = some (rc', ec', cc', pc', k', g', rts', ens', sgs')) : IV rc' ec' cc' pc' k' g' rts' ens' sgs' ∧ pc' = pc + 1 := by
  obtain ⟨i1, i2, i3, i4, i5, i6, i7, i8, i9, i10, i11, i12, i13⟩ := I
  have full : ∀ j, j < 4 * cc → j % 4 = 1 → ∃ t : Nat, t < 10 ∧ sgs j = nI t := by
    intro j hj hm
    refine i13 j ?_ hm
    unfold nsG
    by_cases q : k = 3
    · rw [if_pos q]
      unfold ndB at hn
      rw [if_neg (by omega)] at hn
      have : ¬ (k = 3 ∧ g < 4) := of_decide_eq_false hn
      have := i9 q
      omega
    · rw [if_neg q]; exact hj
  have ensP : ∀ j, j < ec → ens j < 100 ∧ 0 < ens j := by
    intro j hj
    obtain ⟨a, b⟩ := i12 j hj
    refine ⟨a, b.resolve_right (fun z => ?_)⟩
    unfold ndB at hn
    rw [if_pos (Or.inr z.1)] at hn
    exact absurd z.2.2 (of_decide_eq_false hn)
  unfold beO at h
  by_cases q1 : c = 82 ∧ rc < 4
  · rw [if_pos q1] at h
    cases h
    refine ⟨⟨by omega, i2, i3, by omega, by omega, by omega, fun _ => ⟨by omega, by simp [updN]⟩, fun z => absurd z (by decide), fun z => absurd z (by decide), fun _ => by omega, fun j hj => ?_, fun j hj => ⟨(ensP j hj).1, Or.inl (ensP j hj).2⟩, fun j hj hm => full j (by unfold nsG at hj; simpa using hj) hm⟩, rfl⟩
    simp only [updN]
    by_cases z : j = rc
    · rw [if_pos z]; omega
    · rw [if_neg z]; exact i11 j (by omega)
  · rw [if_neg q1] at h
    by_cases q2 : c = 69 ∧ ec < 3
    · rw [if_pos q2] at h
      cases h
      refine ⟨⟨i1, by omega, i3, by omega, by omega, by omega, fun z => absurd z (by decide), fun _ => ⟨by omega, by omega, by simp [updN]⟩, fun z => absurd z (by decide), fun _ => by omega, i11, fun j hj => ?_, fun j hj hm => full j (by unfold nsG at hj; simpa using hj) hm⟩, rfl⟩
      simp only [updN]
      by_cases z : j = ec
      · rw [if_pos z]; exact ⟨by omega, Or.inr ⟨trivial, by omega, trivial⟩⟩
      · rw [if_neg z]; exact ⟨(ensP j (by omega)).1, Or.inl (ensP j (by omega)).2⟩
    · rw [if_neg q2] at h
      by_cases q3 : c = 67 ∧ cc < 4
      · rw [if_pos q3] at h
        cases h
        refine ⟨⟨i1, i2, by omega, by omega, by omega, by omega, fun z => absurd z (by decide), fun z => absurd z (by decide), fun _ => by omega, fun _ => by omega, i11, fun j hj => ⟨(ensP j hj).1, Or.inl (ensP j hj).2⟩, fun j hj hm => full j (by unfold nsG at hj; simpa using hj) hm⟩, rfl⟩
      · rw [if_neg q3] at h; cases h
