/-! the first table -/
def h00 : Hp := (fun i => if i = 12 then fl 0 12 (fun _ => 0) else if i = 17 then fl 0 12 (fun _ => 0) else if i = 22 then fl 0 12 (fun _ => 0) else if i = 27 then fl 0 12 (fun _ => 0) else if i = 43 then fl 20 12 (fun _ => 0) else fun _ => 0, fun _ => 0)
def adr (qx : Nat) (u : Nat × Nat × Nat × Nat × Nat × Nat × Nat × Nat × Nat × Nat × Nat × Nat × Nat × Nat × Nat × Nat × Nat × Nat × Nat × Nat × Nat × Nat × Nat × Nat × Nat × Nat × Nat × Nat × Nat × Nat × Nat × Nat × Nat × Nat × Nat × Nat × Nat × Nat × Nat × Nat) (qm : Nat) (v : Nat × Nat × Nat × Nat × Nat × Nat × Nat × Nat × Nat × Nat × Nat × Nat × Nat × Nat × Nat × Nat × Nat) : Nat → Nat := fun i => ([qx, u.1, u.2.1, u.2.2.1, u.2.2.2.1, u.2.2.2.2.1, u.2.2.2.2.2.1, u.2.2.2.2.2.2.1, u.2.2.2.2.2.2.2.1, u.2.2.2.2.2.2.2.2.1, u.2.2.2.2.2.2.2.2.2.1, u.2.2.2.2.2.2.2.2.2.2.1, u.2.2.2.2.2.2.2.2.2.2.2.1, u.2.2.2.2.2.2.2.2.2.2.2.2.1, u.2.2.2.2.2.2.2.2.2.2.2.2.2.1, u.2.2.2.2.2.2.2.2.2.2.2.2.2.2.1, u.2.2.2.2.2.2.2.2.2.2.2.2.2.2.2.1, u.2.2.2.2.2.2.2.2.2.2.2.2.2.2.2.2.1, u.2.2.2.2.2.2.2.2.2.2.2.2.2.2.2.2.2.1, u.2.2.2.2.2.2.2.2.2.2.2.2.2.2.2.2.2.2.2.1, u.2.2.2.2.2.2.2.2.2.2.2.2.2.2.2.2.2.2.2.2.1, u.2.2.2.2.2.2.2.2.2.2.2.2.2.2.2.2.2.2.2.2.2.1, u.2.2.2.2.2.2.2.2.2.2.2.2.2.2.2.2.2.2.2.2.2.2.1, u.2.2.2.2.2.2.2.2.2.2.2.2.2.2.2.2.2.2.2.2.2.2.2.1, u.2.2.2.2.2.2.2.2.2.2.2.2.2.2.2.2.2.2.2.2.2.2.2.2.1, u.2.2.2.2.2.2.2.2.2.2.2.2.2.2.2.2.2.2.2.2.2.2.2.2.2.1, u.2.2.2.2.2.2.2.2.2.2.2.2.2.2.2.2.2.2.2.2.2.2.2.2.2.2.1, u.2.2.2.2.2.2.2.2.2.2.2.2.2.2.2.2.2.2.2.2.2.2.2.2.2.2.2.1, u.2.2.2.2.2.2.2.2.2.2.2.2.2.2.2.2.2.2.2.2.2.2.2.2.2.2.2.2.1, u.2.2.2.2.2.2.2.2.2.2.2.2.2.2.2.2.2.2.1, u.2.2.2.2.2.2.2.2.2.2.2.2.2.2.2.2.2.2.2.2.2.2.2.2.2.2.2.2.2.1, u.2.2.2.2.2.2.2.2.2.2.2.2.2.2.2.2.2.2.2.2.2.2.2.2.2.2.2.2.2.2.1, u.2.2.2.2.2.2.2.2.2.2.2.2.2.2.2.2.2.2.2.2.2.2.2.2.2.2.2.2.2.2.2.1, u.2.2.2.2.2.2.2.2.2.2.2.2.2.2.2.2.2.2.2.2.2.2.2.2.2.2.2.2.2.2.2.2.1, u.2.2.2.2.2.2.2.2.2.2.2.2.2.2.2.2.2.2.2.2.2.2.2.2.2.2.2.2.2.2.2.2.2.1, u.2.2.2.2.2.2.2.2.2.2.2.2.2.2.2.2.2.2.2.2.2.2.2.2.2.2.2.2.2.2.2.2.2.2.1, u.2.2.2.2.2.2.2.2.2.2.2.2.2.2.2.2.2.2.2.2.2.2.2.2.2.2.2.2.2.2.2.2.2.2.2.1, u.2.2.2.2.2.2.2.2.2.2.2.2.2.2.2.2.2.2.2.2.2.2.2.2.2.2.2.2.2.2.2.2.2.2.2.2.1, u.2.2.2.2.2.2.2.2.2.2.2.2.2.2.2.2.2.2.2.2.2.2.2.2.2.2.2.2.2.2.2.2.2.2.2.2.2.1, u.2.2.2.2.2.2.2.2.2.2.2.2.2.2.2.2.2.2.2.2.2.2.2.2.2.2.2.2.2.2.2.2.2.2.2.2.2.2.1, u.2.2.2.2.2.2.2.2.2.2.2.2.2.2.2.2.2.2.2.2.2.2.2.2.2.2.2.2.2.2.2.2.2.2.2.2.2.2.2, qm, v.1, v.2.1, v.2.2.1, v.2.2.2.1, v.2.2.2.2.1, v.2.2.2.2.2.1, v.2.2.2.2.2.2.1, v.2.2.2.2.2.2.2.1, v.2.2.2.2.2.2.2.2.1, v.2.2.2.2.2.2.2.2.2.1, v.2.2.2.2.2.2.2.2.2.2.1, v.2.2.2.2.2.2.2.2.2.2.2.1, v.2.2.2.2.2.2.2.2.2.2.2.2.1, v.2.2.2.2.2.2.2.2.2.2.2.2.2.1, v.2.2.2.2.2.2.2.2.2.2.2.2.2.2.1, v.2.2.2.2.2.2.2.2.2.2.2.2.2.2.2.1, v.2.2.2.2.2.2.2.2.2.2.2.2.2.2.2.2] : List Nat).getD i 0
set_option maxHeartbeats 4000000 in
set_option maxRecDepth 100000 in
theorem uni {dC : Nat → ClassId} {dI : Nat → Nat → Nat} {aC : Nat → ClassId} {a0 : Nat → Nat} {A : Nat → Prop} {H : Heap} (qx : Nat) (u : Nat × Nat × Nat × Nat × Nat × Nat × Nat × Nat × Nat × Nat × Nat × Nat × Nat × Nat × Nat × Nat × Nat × Nat × Nat × Nat × Nat × Nat × Nat × Nat × Nat × Nat × Nat × Nat × Nat × Nat × Nat × Nat × Nat × Nat × Nat × Nat × Nat × Nat × Nat × Nat) (qm : Nat) (v : Nat × Nat × Nat × Nat × Nat × Nat × Nat × Nat × Nat × Nat × Nat × Nat × Nat × Nat × Nat × Nat × Nat) (hP : va_P (dC, dI) classes (o_X6_init (dC, dI, aC, a0) qx u ++ o_X7_init (dC, dI, aC, a0) qm v) H) (hD : va_D A (o_X6_init (dC, dI, aC, a0) qx u ++ o_X7_init (dC, dI, aC, a0) qm v)) : va_P (dC, dI) classes (wL (dC, dI, aC, adr qx u qm v) h00) H ∧ Inj (dC, dI, aC, adr qx u qm v) ∧ ∀ q, AD (dC, dI, aC, adr qx u qm v) q → A q := by
  obtain ⟨E, hE⟩ : ∃ E : va_W, E = (wL (dC, dI, aC, adr qx u qm v) h00).set 29 (adr qx u qm v 29, .inl (aC 2, 2, .inr (.inr (.inr (.inr (va_up (va_up (fun _ => none) 0 (some u.2.2.2.2.2.2.2.2.2.2.2.2.2.2.2.2.2.2.2.1)) 1 (some u.2.2.2.2.2.2.2.2.2.2.2.2.2.2.2.2.2.2.2.2.2.2.2.2.1))))))) := ⟨_, rfl⟩
  have hP2 : va_P (dC, dI) classes E H := by
    rw [hE]
    exact hP.sub [0, 1, 2, 3, 4, 5, 6, 7, 8, 9, 10, 11, 12, 13, 14, 15, 16, 17, 18, 20, 21, 22, 23, 24, 25, 26, 27, 28, 29, 19, 30, 31, 32, 33, 34, 35, 36, 37, 38, 39, 40, 57, 41, 58, 42, 43, 44, 45, 46, 47, 48, 49, 50, 51, 52, 53, 54, 55, 56] rfl
  have hD2 : va_D A E := by
    rw [hE]
    exact hD.sub [0, 1, 2, 3, 4, 5, 6, 7, 8, 9, 10, 11, 12, 13, 14, 15, 16, 17, 18, 20, 21, 22, 23, 24, 25, 26, 27, 28, 29, 19, 30, 31, 32, 33, 34, 35, 36, 37, 38, 39, 40, 57, 41, 58, 42, 43, 44, 45, 46, 47, 48, 49, 50, 51, 52, 53, 54, 55, 56] (by decide) rfl
  have at_ : ∀ i, i < 59 → ∃ e, E[i]? = some (adr qx u qm v i, e) := by
    intro i hi
    have hw := wL_at (X := (dC, dI, aC, adr qx u qm v)) (h := h00) hi
    rw [hE, List.getElem?_set]
    by_cases q : 29 = i
    · subst q
      rw [if_pos rfl, if_pos (by unfold wL; simp)]
      exact ⟨_, rfl⟩
    · rw [if_neg q, hw]
      exact ⟨_, rfl⟩
  refine ⟨?_, ?_, ?_⟩
  · intro k q hq
    by_cases z : k = 29
    · subst z
      have h29 := hP2 29 (adr qx u qm v 29, .inl (aC 2, 2, .inr (.inr (.inr (.inr (va_up (va_up (fun _ => none) 0 (some u.2.2.2.2.2.2.2.2.2.2.2.2.2.2.2.2.2.2.2.1)) 1 (some u.2.2.2.2.2.2.2.2.2.2.2.2.2.2.2.2.2.2.2.2.2.2.2.2.1))))))) (by rw [hE, List.getElem?_set, if_pos rfl, if_pos (by unfold wL; simp)])
      rw [wL_at (by decide)] at hq
      cases hq
      have h29 : H[adr qx u qm v 29]? = some (vp_cell (aC 2) (2, .inr (.inr (.inr (.inr (va_up (va_up (fun _ => none) 0 (some u.2.2.2.2.2.2.2.2.2.2.2.2.2.2.2.2.2.2.2.1)) 1 (some u.2.2.2.2.2.2.2.2.2.2.2.2.2.2.2.2.2.2.2.2.2.2.2.2.1))))))) := h29
      show H[adr qx u qm v 29]? = some (vp_cell (aC 2) (2, .inr (.inr (.inr (.inr (fun j => some (adr qx u qm v (rF 29 j))))))))
      rw [h29]
      congr 1
    · refine hP2 k q ?_
      rw [hE, List.getElem?_set, if_neg (fun w => z w.symm)]
      exact hq
  · intro i j hi hj hij
    obtain ⟨e1, h1⟩ := at_ i hi
    obtain ⟨e2, h2⟩ := at_ j hj
    exact hD2.1 i j _ _ h1 h2 hij
  · rintro q ⟨i, hi, rfl⟩
    obtain ⟨e1, h1⟩ := at_ i hi
    exact hD2.2 i _ h1
theorem Rel00 : Rel h00 := by
  have f12 : ∀ i, i < 12 → fl 0 12 (fun _ => 0) i = fl 20 12 (fun _ => 0) (20 + i) := by decide +kernel
  refine ⟨0, ⟨by decide, rfl, rfl, ⟨fun i hi => absurd hi (by omega), fun i hi => absurd hi (by omega)⟩, ⟨fun i hi => absurd hi (by omega), fun i hi => absurd hi (by omega), fun i hi => ?_⟩⟩, ⟨0, 0, fun _ => 0, fun _ => 0, ⟨by decide, by decide, rfl, rfl, fun j hj => absurd hj (by omega), fun j hj => absurd hj (by omega)⟩, ⟨by decide, by decide, rfl, rfl, fun j hj => absurd hj (by omega), fun j hj => absurd hj (by omega)⟩⟩, ⟨0, by decide, rfl, rfl, fun j hj => absurd hj (by omega)⟩, ⟨0, by decide, rfl, rfl, fun j hj => absurd hj (by omega)⟩, fun j hj => ⟨rfl, Or.inl rfl⟩, ⟨0, 0, 0, by decide, by decide, by decide, rfl, rfl, rfl, rfl, ⟨fun _ => _, rfl, fun j hj => absurd hj (by omega)⟩⟩, rfl⟩
  exact f12 i hi
