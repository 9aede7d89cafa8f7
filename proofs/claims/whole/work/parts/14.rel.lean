theorem R0_0 : rF 0 0 = 1 := rfl
theorem R0_1 : rF 0 1 = 6 := rfl
theorem R0_2 : rF 0 2 = 9 := rfl
theorem R0_3 : rF 0 3 = 14 := rfl
theorem R0_4 : rF 0 4 = 29 := rfl
theorem R0_5 : rF 0 5 = 30 := rfl
theorem R0_6 : rF 0 6 = 31 := rfl
theorem R0_7 : rF 0 7 = 36 := rfl
theorem R1_0 : rF 1 0 = 2 := rfl
theorem R1_2 : rF 1 2 = 3 := rfl
theorem R1_3 : rF 1 3 = 4 := rfl
theorem R1_4 : rF 1 4 = 5 := rfl
theorem R6_0 : rF 6 0 = 7 := rfl
theorem R6_1 : rF 6 1 = 8 := rfl
theorem R9_0 : rF 9 0 = 6 := rfl
theorem R9_1 : rF 9 1 = 10 := rfl
theorem R9_2 : rF 9 2 = 11 := rfl
theorem R9_3 : rF 9 3 = 12 := rfl
theorem R9_4 : rF 9 4 = 13 := rfl
theorem R14_0 : rF 14 0 = 6 := rfl
theorem R14_1 : rF 14 1 = 15 := rfl
theorem R14_2 : rF 14 2 = 16 := rfl
theorem R14_3 : rF 14 3 = 17 := rfl
theorem R14_4 : rF 14 4 = 18 := rfl
theorem R31_0 : rF 31 0 = 32 := rfl
theorem R31_1 : rF 31 1 = 33 := rfl
theorem R31_2 : rF 31 2 = 34 := rfl
theorem R31_3 : rF 31 3 = 35 := rfl
theorem R36_0 : rF 36 0 = 37 := rfl
theorem R36_1 : rF 36 1 = 38 := rfl
theorem R36_2 : rF 36 2 = 39 := rfl
theorem R36_3 : rF 36 3 = 40 := rfl
theorem R41_0 : rF 41 0 = 42 := rfl
theorem R41_2 : rF 41 2 = 43 := rfl
theorem R41_3 : rF 41 3 = 44 := rfl
theorem R41_4 : rF 41 4 = 45 := rfl
theorem R41_7 : rF 41 7 = 46 := rfl
theorem R41_8 : rF 41 8 = 47 := rfl
theorem R41_9 : rF 41 9 = 48 := rfl
theorem R41_10 : rF 41 10 = 49 := rfl
theorem R41_14 : rF 41 14 = 50 := rfl
theorem R41_15 : rF 41 15 = 51 := rfl
theorem R41_16 : rF 41 16 = 52 := rfl
theorem R41_22 : rF 41 22 = 53 := rfl
theorem R41_23 : rF 41 23 = 54 := rfl
theorem R41_24 : rF 41 24 = 55 := rfl
theorem R41_25 : rF 41 25 = 56 := rfl
theorem R41_28 : rF 41 28 = 57 := rfl
theorem R41_29 : rF 41 29 = 58 := rfl
theorem N_2 : lN_ 2 = 60 := rfl
theorem N_3 : lN_ 3 = 4 := rfl
theorem N_4 : lN_ 4 = 3 := rfl
theorem N_5 : lN_ 5 = 16 := rfl
theorem N_7 : lN_ 7 = 4 := rfl
theorem N_8 : lN_ 8 = 3 := rfl
theorem N_10 : lN_ 10 = 16 := rfl
theorem N_11 : lN_ 11 = 4 := rfl
theorem N_12 : lN_ 12 = 12 := rfl
theorem N_13 : lN_ 13 = 12 := rfl
theorem N_15 : lN_ 15 = 16 := rfl
theorem N_16 : lN_ 16 = 4 := rfl
theorem N_17 : lN_ 17 = 12 := rfl
theorem N_18 : lN_ 18 = 12 := rfl
theorem N_20 : lN_ 20 = 16 := rfl
theorem N_21 : lN_ 21 = 4 := rfl
theorem N_22 : lN_ 22 = 12 := rfl
theorem N_25 : lN_ 25 = 16 := rfl
theorem N_26 : lN_ 26 = 4 := rfl
theorem N_27 : lN_ 27 = 12 := rfl
theorem N_29 : lN_ 29 = 2 := rfl
theorem N_30 : lN_ 30 = 2 := rfl
theorem N_32 : lN_ 32 = 14 := rfl
theorem N_33 : lN_ 33 = 14 := rfl
theorem N_34 : lN_ 34 = 14 := rfl
theorem N_35 : lN_ 35 = 14 := rfl
theorem N_37 : lN_ 37 = 6 := rfl
theorem N_38 : lN_ 38 = 6 := rfl
theorem N_39 : lN_ 39 = 6 := rfl
theorem N_40 : lN_ 40 = 6 := rfl
theorem N_42 : lN_ 42 = 60 := rfl
theorem N_43 : lN_ 43 = 32 := rfl
theorem N_44 : lN_ 44 = 32 := rfl
theorem N_45 : lN_ 45 = 448 := rfl
theorem N_46 : lN_ 46 = 64 := rfl
theorem N_47 : lN_ 47 = 2 := rfl
theorem N_48 : lN_ 48 = 4 := rfl
theorem N_49 : lN_ 49 = 3 := rfl
theorem N_50 : lN_ 50 = 4 := rfl
theorem N_51 : lN_ 51 = 3 := rfl
theorem N_52 : lN_ 52 = 16 := rfl
theorem N_53 : lN_ 53 = 6 := rfl
theorem N_54 : lN_ 54 = 6 := rfl
theorem N_55 : lN_ 55 = 6 := rfl
theorem N_56 : lN_ 56 = 6 := rfl
theorem N_57 : lN_ 57 = 12 := rfl
theorem N_58 : lN_ 58 = 16 := rfl
theorem rI (h : Hp) (i k : Nat) (v : Int32) (a b : Nat) : (sI h i k v).1 a b = if a = i ∧ b = k then v else h.1 a b := by
  unfold sI sA upd
  by_cases q : a = i
  · subst q
    by_cases q2 : b = k <;> simp [q2]
  · simp [q]
theorem rI_ne (h : Hp) {i k : Nat} (v : Int32) {a : Nat} (q : a ≠ i) : (sI h i k v).1 a = h.1 a := sA_ne h _ q
theorem rI_k (h : Hp) {i k : Nat} (v : Int32) {b : Nat} (q : b ≠ k) : (sI h i k v).1 i b = h.1 i b := by rw [rI, if_neg (fun z => q z.2)]
theorem rI_at (h : Hp) (i k : Nat) (v : Int32) : (sI h i k v).1 i k = v := by rw [rI, if_pos ⟨rfl, rfl⟩]
theorem rI_l (h : Hp) (i k : Nat) (v : Int32) : (sI h i k v).2 = h.2 := rfl
/-! what class and reference have in common -/
abbrev Tr : Type := (Nat → Int32) × (Nat → Int32) × (Nat → Int32)
def VL (C : Nat) (q : Tr) : Prop := (∀ i, i < C → ∃ v : Nat, v < C ∧ q.1 i = nI v) ∧ (∀ c, c < C → ∃ t : Nat, t < 10 ∧ q.2.1 (c * 4 + 1) = nI t)
def AG (C : Nat) (q : Tr) (row : Nat → Int32) : Prop := (∀ i, i < C → q.1 i = row i) ∧ (∀ i, i < 4 * C → q.2.1 i = row (4 + i)) ∧ (∀ i, i < 12 → q.2.2 i = row (20 + i))
def tr (h : Hp) (a : Nat) : Tr := (h.1 (a + 2), h.1 (a + 1), h.1 (a + 3))
def RlW (h : Hp) (C : Nat) : Prop := C ≤ 4 ∧ h.1 9 5 = nI C ∧ h.1 41 13 = nI C ∧ VL C (tr h 9) ∧ AG C (tr h 9) (h.1 43)
def RlS (h : Hp) : Prop := ∃ (R E : Nat) (rt en : Nat → Nat), SK h R E rt en ∧ NK h R E rt en
def RlT (h : Hp) : Prop := ∃ n : Nat, n ≤ 60 ∧ h.1 1 1 = nI n ∧ h.1 41 1 = nI n ∧ ∀ j, j < n → h.1 2 j = h.1 42 j
def RlG (h : Hp) : Prop := ∃ n : Nat, n ≤ 6 ∧ h.1 36 4 = nI n ∧ h.1 41 26 = nI n ∧ ∀ j, j < n → h.1 37 j = h.1 53 j ∧ h.1 38 j = h.1 54 j ∧ h.1 39 j = h.1 55 j ∧ h.1 40 j = h.1 56 j ∧ (h.1 56 j = 0 ∨ h.1 56 j = 1) ∧ (∃ p : Nat, p < 5 ∧ h.1 54 j = nI p) ∧ (∃ v : Nat, 1 ≤ v ∧ v ≤ 5 ∧ h.1 55 j = nI v)
def RlK (h : Hp) (C : Nat) : Prop := ∀ j, j < 2 → h.1 30 j = h.1 47 j ∧ (h.1 30 j = 0 ∨ (h.1 30 j = 1 ∧ h.1 (19 + 5 * j) 5 = nI C ∧ VL C (tr h (19 + 5 * j)) ∧ AG C (tr h (19 + 5 * j)) (fun i => h.1 46 (32 * j + i))))
/-- a doing undone -/
def unD (k o t : Nat) (b : Int32) (q : Tr) : Tr := if k = 1 then (upd (upd q.1 o (q.1 t)) t (q.1 o), q.2.1, q.2.2) else if k = 2 then (q.1, upd q.2.1 (o * 4 + t) b, q.2.2) else (q.1, q.2.1, upd q.2.2 (o * 3 + t) b)
def okD (C k o t : Nat) : Prop := (k = 1 ∧ o < C ∧ t < C) ∨ (k = 2 ∧ o < C ∧ t < 4) ∨ (k = 3 ∧ o < 4 ∧ t < 3)
/-- the doings of the class and the diary of the reference: n of them; the ring ends before place (f + n), the diary before place x -/
def HD (C n f x : Nat) (kd on ot be : Nat → Int32) (di : Nat → Int32) (q : Tr) : Prop := ∃ sq : Nat → Tr, sq 0 = q ∧ ∀ j, j < n → ∃ k o t : Nat, okD C k o t ∧ kd ((f + n - 1 - j) % 14) = nI k ∧ on ((f + n - 1 - j) % 14) = nI o ∧ ot ((f + n - 1 - j) % 14) = nI t ∧ sq (j + 1) = unD k o t (be ((f + n - 1 - j) % 14)) (sq j) ∧ VL C (sq (j + 1)) ∧ AG C (sq (j + 1)) (fun i => di (32 * ((x + 13 - j) % 14) + i))
def RlD (h : Hp) (C : Nat) : Prop := ∃ n f x : Nat, n ≤ 14 ∧ f < 14 ∧ x < 14 ∧ h.1 31 5 = nI n ∧ h.1 31 4 = nI f ∧ h.1 41 5 = nI n ∧ h.1 41 6 = nI x ∧ HD C n f x (h.1 32) (h.1 33) (h.1 34) (h.1 35) (h.1 45) (tr h 9)
def Rel (h : Hp) : Prop := ∃ C : Nat, RlW h C ∧ RlS h ∧ RlT h ∧ RlG h ∧ RlK h C ∧ RlD h C ∧ h.2 0 = h.2 41
/-! cells that nobody asks for later -/
def scA : List Nat := [3, 4, 5, 13, 14, 15, 16, 17, 18, 44, 50, 51, 52, 57, 58]
def Sc (h h' : Hp) : Prop := h'.2 = h.2 ∧ (∀ i, i ∉ scA → i ≠ 1 → i ≠ 41 → h'.1 i = h.1 i) ∧ h'.1 1 1 = h.1 1 1 ∧ (∀ k, (k < 17 ∨ 21 < k) → h'.1 41 k = h.1 41 k)
theorem Sc_rf (h : Hp) : Sc h h := ⟨rfl, fun _ _ _ _ => rfl, rfl, fun _ _ => rfl⟩
theorem Sc_tr {h h1 h2 : Hp} (a : Sc h h1) (b : Sc h1 h2) : Sc h h2 := ⟨b.1.trans a.1, fun i x y z => (b.2.1 i x y z).trans (a.2.1 i x y z), b.2.2.1.trans a.2.2.1, fun k x => (b.2.2.2 k x).trans (a.2.2.2 k x)⟩
theorem Sc_A (h : Hp) {i : Nat} (f : Nat → Int32) (hi : i ∈ scA) : Sc h (sA h i f) := by
  have h1 : i ≠ 1 := fun q => by subst q; revert hi; decide
  have h2 : i ≠ 41 := fun q => by subst q; revert hi; decide
  refine ⟨rfl, fun j x _ _ => sA_ne h f (fun q => x (by rw [q]; exact hi)), ?_, fun k _ => ?_⟩
  · rw [sA_ne h f (fun q => h1 q.symm)]
  · rw [sA_ne h f (fun q => h2 q.symm)]
theorem Sc_I (h : Hp) {i : Nat} (k : Nat) (v : Int32) (hi : i ∈ scA) : Sc h (sI h i k v) := Sc_A h _ hi
theorem Sc_t (h : Hp) {k : Nat} (v : Int32) (hk : k ≠ 1) : Sc h (sI h 1 k v) := ⟨rfl, fun j _ x _ => rI_ne h v x, rI_k h v (fun q => hk q.symm), fun k _ => by rw [rI_ne h v (by decide)]⟩
theorem Sc_m (h : Hp) {k : Nat} (v : Int32) (hk : 17 ≤ k ∧ k ≤ 21) : Sc h (sI h 41 k v) := ⟨rfl, fun j _ _ x => rI_ne h v x, by rw [rI_ne h v (by decide)], fun j x => rI_k h v (by omega)⟩
theorem Rel_Sc {h h' : Hp} (H : Rel h) (e : Sc h h') : Rel h' := by
  obtain ⟨C, hW, hS, hT, hG, hK, hD, hZ⟩ := H
  obtain ⟨e2, eA, e1, e41⟩ := e
  have A : ∀ i, (decide (i ∉ scA ∧ i ≠ 1 ∧ i ≠ 41) = true) → h'.1 i = h.1 i := fun i q => by
    have := of_decide_eq_true q
    exact eA i this.1 this.2.1 this.2.2
  have t9 : tr h' 9 = tr h 9 := by unfold tr; rw [A 11 rfl, A 10 rfl, A 12 rfl]
  refine ⟨C, ?_, ?_, ?_, ?_, ?_, ?_, ?_⟩
  · unfold RlW
    rw [A 9 rfl, e41 13 (by decide), t9, A 43 rfl]
    exact hW
  · unfold RlS SK NK
    rw [A 6 rfl, A 7 rfl, A 8 rfl, A 48 rfl, A 49 rfl, e41 11 (by decide), e41 12 (by decide)]
    exact hS
  · unfold RlT
    rw [e1, e41 1 (by decide), A 2 rfl, A 42 rfl]
    exact hT
  · unfold RlG
    rw [A 36 rfl, e41 26 (by decide), A 37 rfl, A 38 rfl, A 39 rfl, A 40 rfl, A 53 rfl, A 54 rfl, A 55 rfl, A 56 rfl]
    exact hG
  · intro j hj
    have := hK j hj
    have k1 : h'.1 (19 + 5 * j) = h.1 (19 + 5 * j) := by
      rcases (show j = 0 ∨ j = 1 by omega) with rfl | rfl <;> exact A _ rfl
    have k2 : tr h' (19 + 5 * j) = tr h (19 + 5 * j) := by
      unfold tr
      rcases (show j = 0 ∨ j = 1 by omega) with rfl | rfl <;> rw [A _ rfl, A _ rfl, A _ rfl]
    rw [A 30 rfl, A 47 rfl, k1, k2, A 46 rfl]
    exact this
  · unfold RlD
    rw [A 31 rfl, e41 5 (by decide), e41 6 (by decide), A 32 rfl, A 33 rfl, A 34 rfl, A 35 rfl, A 45 rfl, t9]
    exact hD
  · rw [e2]; exact hZ
def lnH (h : Hp) (a : Nat) : Nat → Nat := fun i => (h.1 (a + 2) i).toNatClampNeg
def SH (h : Hp) (a : Nat) : Nat → Nat → Int32 := fun c k => h.1 (a + 1) (c * 4 + k)
def TH (h : Hp) (a : Nat) : Nat → Nat := fun c => (h.1 (a + 1) (c * 4 + 1)).toNatClampNeg
theorem VL_wk {h : Hp} {a C : Nat} (ha : isW a) (hC : C ≤ 4) (h5 : h.1 a 5 = nI C) (hV : VL C (tr h a)) : WK h a C (lnH h a) (SH h a) (TH h a) := by
  refine ⟨ha, hC, h5, fun j hj => ?_, fun c k hc hk => rfl, fun c hc => ?_⟩
  · obtain ⟨v, hv, e⟩ := hV.1 j hj
    have e : h.1 (a + 2) j = nI v := e
    unfold lnH
    rw [e, nI_clamp (by omega)]
    exact ⟨rfl, hv⟩
  · obtain ⟨v, hv, e⟩ := hV.2 c hc
    have e : h.1 (a + 1) (c * 4 + 1) = nI v := e
    unfold SH TH
    rw [e, nI_clamp (by omega)]
    exact ⟨rfl, hv⟩
theorem AG_mk {h : Hp} {a r C : Nat} (hr : isR r) (hC : C ≤ 4) (h5 : h.1 41 13 = nI C) (hV : VL C (tr h a)) (hA : AG C (tr h a) (h.1 r)) : MK h r C (lnH h a) (SH h a) (TH h a) := by
  refine ⟨hr, hC, h5, fun j hj => ?_, fun c k hc hk => ?_, fun c hc => ?_⟩
  · obtain ⟨v, hv, e⟩ := hV.1 j hj
    have e : h.1 (a + 2) j = nI v := e
    have e2 : h.1 (a + 2) j = h.1 r j := hA.1 j hj
    unfold lnH
    rw [← e2, e, nI_clamp (by omega)]
    exact ⟨rfl, hv⟩
  · have e2 : h.1 (a + 1) (c * 4 + k) = h.1 r (4 + (c * 4 + k)) := hA.2.1 _ (by omega)
    unfold SH
    rw [e2, show 4 + 4 * c + k = 4 + (c * 4 + k) by omega]
  · obtain ⟨v, hv, e⟩ := hV.2 c hc
    have e : h.1 (a + 1) (c * 4 + 1) = nI v := e
    unfold SH TH
    rw [e, nI_clamp (by omega)]
    exact ⟨rfl, hv⟩
theorem RlW.wk {h : Hp} {C : Nat} (H : RlW h C) : WK h 9 C (lnH h 9) (SH h 9) (TH h 9) := VL_wk (Or.inl rfl) H.1 H.2.1 H.2.2.2.1
theorem RlW.mk {h : Hp} {C : Nat} (H : RlW h C) : MK h 43 C (lnH h 9) (SH h 9) (TH h 9) := AG_mk (Or.inl rfl) H.1 H.2.2.1 H.2.2.2.1 H.2.2.2.2
theorem RlW.fm {h : Hp} {C : Nat} (H : RlW h C) : ∀ j, j < 12 → h.1 43 (20 + j) = h.1 12 j := fun j hj => (H.2.2.2.2.2.2 j hj).symm
/-- one call of each: the same answer, and what they have in common stays -/
def St {α : Type} (f g : Hp → Option (α × Hp)) (h : Hp) : Prop := ∃ (r : α) (h1 h2 : Hp), f h = some (r, h1) ∧ g h1 = some (r, h2) ∧ Rel h2
theorem St_same {α : Type} {f g : Hp → Option (α × Hp)} {h h1 h2 : Hp} {r : α} (H : Rel h) (e1 : f h = some (r, h1)) (s1 : Sc h h1) (e2 : g h1 = some (r, h2)) (s2 : Sc h1 h2) : St f g h := ⟨r, h1, h2, e1, e2, Rel_Sc H (Sc_tr s1 s2)⟩
theorem St_ro {α : Type} {f g : Hp → Option (α × Hp)} {h : Hp} {r : α} (H : Rel h) (e1 : f h = some (r, h)) (e2 : g h = some (r, h)) : St f g h := ⟨r, h, h, e1, e2, H⟩
