/-! doings -/
theorem upd_at (f : Nat → Int32) (k : Nat) (v : Int32) : upd f k v k = v := by simp [upd]
theorem upd_ne (f : Nat → Int32) {k j : Nat} (v : Int32) (q : j ≠ k) : upd f k v j = f j := by simp [upd, q]
theorem sI_row (h : Hp) (i k : Nat) (v : Int32) : (sI h i k v).1 i = upd (h.1 i) k v := by unfold sI; rw [sA_at]
theorem AG_cg {C : Nat} {q : Tr} {row row' : Nat → Int32} (hC : C ≤ 4) (H : AG C q row) (e : ∀ i, i < 32 → row' i = row i) : AG C q row' := ⟨fun i hi => by rw [e i (by omega)]; exact H.1 i hi, fun i hi => by rw [e _ (by omega)]; exact H.2.1 i hi, fun i hi => by rw [e _ (by omega)]; exact H.2.2 i hi⟩
theorem HD_add {C n f x : Nat} {kd on ot be di kd' on' ot' be' di' : Nat → Int32} {q q' : Tr} {row : Nat → Int32} (hC : C ≤ 4) (hn : n ≤ 14) (hf : f < 14) (hx : x < 14) (H : HD C n f x kd on ot be di q) {k o t n2 f2 p : Nat} {b : Int32} (hk : okD C k o t) (hu : unD k o t b q' = q) (hV : VL C q) (hA : AG C q row)
    (e : (n < 14 ∧ n2 = n ∧ f2 = f) ∨ (n = 14 ∧ n2 = 13 ∧ f2 = (f + 1) % 14)) (hp : p = (f2 + n2) % 14) (k1 : kd' = upd kd p (nI k)) (k2 : on' = upd on p (nI o)) (k3 : ot' = upd ot p (nI t)) (k4 : be' = upd be p b) (d1 : ∀ i, i < 32 → di' (32 * x + i) = row i) (d2 : ∀ y i, y < 14 → y ≠ x → i < 32 → di' (32 * y + i) = di (32 * y + i)) : HD C (n2 + 1) f2 ((x + 1) % 14) kd' on' ot' be' di' q' := by
  obtain ⟨sq, s0, hs⟩ := H
  subst k1; subst k2; subst k3; subst k4
  refine ⟨fun j => if j = 0 then q' else sq (j - 1), rfl, fun j hj => ?_⟩
  by_cases q0 : j = 0
  · subst q0
    have e1 : (f2 + (n2 + 1) - 1 - 0) % 14 = p := by rw [hp]; congr 1
    have e2 : ((x + 1) % 14 + 13 - 0) % 14 = x := by omega
    refine ⟨k, o, t, hk, ?_, ?_, ?_, ?_, ?_, ?_⟩
    · rw [e1, upd_at]
    · rw [e1, upd_at]
    · rw [e1, upd_at]
    · rw [e1, upd_at]
      show sq 0 = _
      rw [s0]
      exact hu.symm
    · show VL C (sq 0)
      rw [s0]; exact hV
    · show AG C (sq 0) _
      rw [s0, e2]
      exact AG_cg hC hA d1
  · obtain ⟨k', o', t', h1, h2, h3, h4, h5, h6, h7⟩ := hs (j - 1) (by omega)
    have e1 : (f2 + (n2 + 1) - 1 - j) % 14 = (f + n - 1 - (j - 1)) % 14 := by omega
    have e2 : (f2 + (n2 + 1) - 1 - j) % 14 ≠ p := by omega
    have e3 : ((x + 1) % 14 + 13 - j) % 14 = (x + 13 - (j - 1)) % 14 := by omega
    have e4 : (x + 13 - (j - 1)) % 14 ≠ x := by omega
    have e5 : j - 1 + 1 = j := by omega
    refine ⟨k', o', t', h1, ?_, ?_, ?_, ?_, ?_, ?_⟩
    · rw [upd_ne _ _ e2, e1]; exact h2
    · rw [upd_ne _ _ e2, e1]; exact h3
    · rw [upd_ne _ _ e2, e1]; exact h4
    · rw [upd_ne _ _ e2, e1]
      show sq j = unD k' o' t' _ (if j = 0 then q' else sq (j - 1))
      rw [if_neg q0, ← e5]
      rw [e5] at h5
      rw [e5]
      exact h5
    · rw [e5] at h6; exact h6
    · rw [e5] at h7
      have hlt : (x + 13 - (j - 1)) % 14 < 14 := Nat.mod_lt _ (by decide)
      rw [e3]
      exact AG_cg hC h7 (fun i hi => d2 _ _ hlt e4 hi)
theorem HD_un {C n f x : Nat} {kd on ot be di : Nat → Int32} {q : Tr} (hn : n + 1 ≤ 14) (hf : f < 14) (hx : x < 14) (H : HD C (n + 1) f x kd on ot be di q) : ∃ k o t : Nat, okD C k o t ∧ kd ((f + n) % 14) = nI k ∧ on ((f + n) % 14) = nI o ∧ ot ((f + n) % 14) = nI t ∧ VL C (unD k o t (be ((f + n) % 14)) q) ∧ AG C (unD k o t (be ((f + n) % 14)) q) (fun i => di (32 * ((x + 13) % 14) + i)) ∧ HD C n f ((x + 13) % 14) kd on ot be di (unD k o t (be ((f + n) % 14)) q) := by
  obtain ⟨sq, s0, hs⟩ := H
  obtain ⟨k, o, t, h1, h2, h3, h4, h5, h6, h7⟩ := hs 0 (by omega)
  have e1 : (f + (n + 1) - 1 - 0) % 14 = (f + n) % 14 := by congr 1
  rw [e1] at h2 h3 h4 h5
  rw [s0] at h5
  rw [h5] at h6 h7
  refine ⟨k, o, t, h1, h2, h3, h4, h6, h7, fun j => sq (j + 1), h5, fun j hj => ?_⟩
  obtain ⟨k', o', t', i1, i2, i3, i4, i5, i6, i7⟩ := hs (j + 1) (by omega)
  have e2 : (f + n - 1 - j) % 14 = (f + (n + 1) - 1 - (j + 1)) % 14 := by omega
  have e3 : ((x + 13) % 14 + 13 - j) % 14 = (x + 13 - (j + 1)) % 14 := by omega
  rw [e2, e3]
  exact ⟨k', o', t', i1, i2, i3, i4, i5, i6, i7⟩
/-- the class notes a doing -/
theorem p_add {h : Hp} {n f : Nat} (hn : n ≤ 14) (hf : f < 14) (h5 : h.1 31 5 = nI n) (h4 : h.1 31 4 = nI f) (k o t b : Int32) : ∃ n2 f2 : Nat, ((n < 14 ∧ n2 = n ∧ f2 = f) ∨ (n = 14 ∧ n2 = 13 ∧ f2 = (f + 1) % 14)) ∧ ∃ h' : Hp, f_X0_add 31 k o t b h = some h' ∧ h'.2 = h.2 ∧ (∀ i, i < 31 ∨ 35 < i → h'.1 i = h.1 i) ∧ h'.1 31 4 = nI f2 ∧ h'.1 31 5 = nI (n2 + 1) ∧ h'.1 32 = upd (h.1 32) ((f2 + n2) % 14) k ∧ h'.1 33 = upd (h.1 33) ((f2 + n2) % 14) o ∧ h'.1 34 = upd (h.1 34) ((f2 + n2) % 14) t ∧ h'.1 35 = upd (h.1 35) ((f2 + n2) % 14) b := by
  have gen : ∀ (hh : Hp) (n2 f2 : Nat), n2 < 14 → f2 < 14 → hh.1 31 5 = nI n2 → hh.1 31 4 = nI f2 → g_X0_add_32 31 k o t b hh = some (sI (sI (sI (sI (sI hh 32 ((f2 + n2) % 14) k) 33 ((f2 + n2) % 14) o) 34 ((f2 + n2) % 14) t) 35 ((f2 + n2) % 14) b) 31 5 (nI (n2 + 1))) := by
    intro hh n2 f2 hn2 hf2 e5 e4
    have hlt : (f2 + n2) % 14 < 14 := Nat.mod_lt _ (by decide)
    unfold g_X0_add_32
    rw [R31_0, R31_1, R31_2, R31_3, N_32, N_33, N_34, N_35, e5, e4, nI_add, L14, pk_rem (by omega) (by decide) (by decide), if_pos (okI_n hlt (by decide)), if_pos (okI_n hlt (by decide)), if_pos (okI_n hlt (by decide)), if_pos (okI_n hlt (by decide)), nI_clamp (by omega)]
    congr 2
    simp only [rI_ne _ _ (show (31 : Nat) ≠ 35 by decide), rI_ne _ _ (show (31 : Nat) ≠ 34 by decide), rI_ne _ _ (show (31 : Nat) ≠ 33 by decide), rI_ne _ _ (show (31 : Nat) ≠ 32 by decide), e5, L1, nI_add]
  have post : ∀ (hh : Hp) (n2 f2 : Nat), hh.2 = h.2 → (∀ i, i ≠ 31 → hh.1 i = h.1 i) → hh.1 31 4 = nI f2 → ∀ h', h' = sI (sI (sI (sI (sI hh 32 ((f2 + n2) % 14) k) 33 ((f2 + n2) % 14) o) 34 ((f2 + n2) % 14) t) 35 ((f2 + n2) % 14) b) 31 5 (nI (n2 + 1)) → h'.2 = h.2 ∧ (∀ i, i < 31 ∨ 35 < i → h'.1 i = h.1 i) ∧ h'.1 31 4 = nI f2 ∧ h'.1 31 5 = nI (n2 + 1) ∧ h'.1 32 = upd (h.1 32) ((f2 + n2) % 14) k ∧ h'.1 33 = upd (h.1 33) ((f2 + n2) % 14) o ∧ h'.1 34 = upd (h.1 34) ((f2 + n2) % 14) t ∧ h'.1 35 = upd (h.1 35) ((f2 + n2) % 14) b := by
    intro hh n2 f2 e2 eA e4 h' eh
    subst eh
    refine ⟨e2, fun i hi => ?_, ?_, rI_at _ _ _ _, ?_, ?_, ?_, ?_⟩
    · rw [rI_ne _ _ (by omega), rI_ne _ _ (by omega), rI_ne _ _ (by omega), rI_ne _ _ (by omega), rI_ne _ _ (by omega)]
      exact eA i (by omega)
    · rw [rI_k _ _ (by decide), rI_ne _ _ (by decide), rI_ne _ _ (by decide), rI_ne _ _ (by decide), rI_ne _ _ (by decide)]
      exact e4
    · rw [rI_ne _ _ (by decide), rI_ne _ _ (by decide), rI_ne _ _ (by decide), rI_ne _ _ (by decide), sI_row, eA 32 (by decide)]
    · rw [rI_ne _ _ (by decide), rI_ne _ _ (by decide), rI_ne _ _ (by decide), sI_row, rI_ne _ _ (by decide), eA 33 (by decide)]
    · rw [rI_ne _ _ (by decide), rI_ne _ _ (by decide), sI_row, rI_ne _ _ (by decide), rI_ne _ _ (by decide), eA 34 (by decide)]
    · rw [rI_ne _ _ (by decide), sI_row, rI_ne _ _ (by decide), rI_ne _ _ (by decide), rI_ne _ _ (by decide), eA 35 (by decide)]
  unfold f_X0_add
  by_cases q : n = 14
  · have hf2 : (f + 1) % 14 < 14 := Nat.mod_lt _ (by decide)
    refine ⟨13, (f + 1) % 14, Or.inr ⟨q, rfl, rfl⟩, _, ?_, post (sI (sI h 31 4 (nI ((f + 1) % 14))) 31 5 (nI 13)) 13 ((f + 1) % 14) rfl (fun i hi => by rw [rI_ne _ _ hi, rI_ne _ _ hi]) (by rw [rI_k _ _ (by decide), rI_at]) _ rfl⟩
    rw [h5, if_pos (by rw [q]; rfl), h4, L1, nI_add, L14, pk_rem (by omega) (by decide) (by decide), rI_k _ _ (show (5 : Nat) ≠ 4 by decide), h5, q, pk_sub (by decide)]
    exact gen _ 13 _ (by decide) hf2 (rI_at _ _ _ _) (by rw [rI_k _ _ (by decide), rI_at])
  · refine ⟨n, f, Or.inl ⟨by omega, rfl, rfl⟩, _, ?_, post h n f rfl (fun i hi => rfl) h4 _ rfl⟩
    rw [h5, if_neg (by rw [L14, nI_eq (by omega) (by omega)]; exact q)]
    exact gen h n f (by omega) hf h5 h4
/-- the reference notes a doing -/
theorem q_noteL {h : Hp} {x : Nat} (hx : x < 14) (h6 : h.1 41 6 = nI x) : ∀ (d n i : Nat) (di : Nat → Int32), d < n → i + d = 32 → (∀ j, j < i → di (32 * x + j) = h.1 43 j) → (∀ y j, y < 14 → y ≠ x → j < 32 → di (32 * y + j) = h.1 45 (32 * y + j)) →
    ∃ di', (∀ j, j < 32 → di' (32 * x + j) = h.1 43 j) ∧ (∀ y j, y < 14 → y ≠ x → j < 32 → di' (32 * y + j) = h.1 45 (32 * y + j)) ∧ f_X7_noteDoing_2 41 n (nI i) (sA h 45 di) = g_X7_noteDoing_2 41 (fun _ _ => none) (nI 32) (sA h 45 di') := by
  intro d
  induction d with
  | zero =>
    intro n i di hn hd h1 h2
    obtain ⟨n, rfl⟩ : ∃ m, n = m + 1 := ⟨n - 1, by omega⟩
    refine ⟨di, fun j hj => h1 j (by omega), h2, ?_⟩
    rw [s_X7_noteDoing_2, show i = 32 by omega]
    unfold g_X7_noteDoing_2
    rw [if_pos (show (32 : Int32) ≤ nI 32 by decide), if_pos (show (32 : Int32) ≤ nI 32 by decide)]
  | succ d ih =>
    intro n i di hn hd h1 h2
    obtain ⟨n, rfl⟩ : ∃ m, n = m + 1 := ⟨n - 1, by omega⟩
    obtain ⟨di', k1, k2, k3⟩ := ih n (i + 1) (upd di (32 * x + i) (h.1 43 i)) (by omega) (by omega) (fun j hj => by
      by_cases q : j = i
      · subst q; rw [upd_at]
      · rw [upd_ne _ _ (by omega)]; exact h1 j (by omega)) (fun y j hy hyx hj => by
      rw [upd_ne _ _ (by omega)]; exact h2 y j hy hyx hj)
    refine ⟨di', k1, k2, ?_⟩
    have e6 : (sA h 45 di).1 41 6 = nI x := by rw [sA_ne _ _ (by decide)]; exact h6
    rw [s_X7_noteDoing_2]
    show g_X7_noteDoing_2 41 (f_X7_noteDoing_2 41 n) (nI i) (sA h 45 di) = _
    rw [← k3]
    unfold g_X7_noteDoing_2
    rw [L32, if_neg (by rw [nI_leI (by omega) (by omega)]; omega), R41_2, R41_4, N_43, N_45, if_pos (okI_n (by omega) (by decide)), e6, pk_mul, nI_add, if_pos (okI_n (by omega) (by decide)), nI_clamp (by omega), nI_clamp (by omega), sI_sA, sA_ne _ _ (show (43 : Nat) ≠ 45 by decide), L1, nI_add]
theorem q_note {h : Hp} {n x : Nat} (hn : n ≤ 14) (hx : x < 14) (h5 : h.1 41 5 = nI n) (h6 : h.1 41 6 = nI x) : ∃ h' : Hp, f_X7_noteDoing 41 h = some h' ∧ h'.2 = h.2 ∧ (∀ i, i ≠ 41 → i ≠ 45 → h'.1 i = h.1 i) ∧ (∀ k, k ≠ 5 → k ≠ 6 → h'.1 41 k = h.1 41 k) ∧ h'.1 41 5 = nI (if n = 14 then 14 else n + 1) ∧ h'.1 41 6 = nI ((x + 1) % 14) ∧ (∀ j, j < 32 → h'.1 45 (32 * x + j) = h.1 43 j) ∧ (∀ y j, y < 14 → y ≠ x → j < 32 → h'.1 45 (32 * y + j) = h.1 45 (32 * y + j)) := by
  obtain ⟨di, k1, k2, k3⟩ := q_noteL hx h6 32 FU 0 (h.1 45) (by decide) rfl (fun j hj => absurd hj (by omega)) (fun _ _ _ _ _ => rfl)
  rw [sA_self] at k3
  refine ⟨sI (sI (sA h 45 di) 41 6 (nI ((x + 1) % 14))) 41 5 (nI (if n = 14 then 14 else n + 1)), ?_, rfl, fun i h1 h2 => ?_, fun k h1 h2 => ?_, rI_at _ _ _ _, ?_, fun j hj => ?_, fun y j hy hyx hj => ?_⟩
  · unfold f_X7_noteDoing
    rw [L0, k3]
    unfold g_X7_noteDoing_2
    rw [L32, if_pos (by rw [nI_leI (by omega) (by omega)]; omega), sA_ne h di (show (41 : Nat) ≠ 45 by decide), h6, L1, nI_add, L14, pk_rem (by omega) (by decide) (by decide), rI_k _ _ (show (5 : Nat) ≠ 6 by decide), sA_ne h di (show (41 : Nat) ≠ 45 by decide), h5]
    by_cases q : n = 14
    · rw [if_pos (by rw [nI_leI (by omega) (by omega)]; omega), if_pos q]
    · rw [if_neg (by rw [nI_leI (by omega) (by omega)]; omega), if_neg q, nI_add]
  · rw [rI_ne _ _ h1, rI_ne _ _ h1, sA_ne _ _ h2]
  · rw [rI_k _ _ h1, rI_k _ _ h2, sA_ne _ _ (by decide)]
  · rw [rI_k _ _ (by decide), rI_at]
  · rw [rI_ne _ _ (by decide), rI_ne _ _ (by decide), sA_at]; exact k1 j hj
  · rw [rI_ne _ _ (by decide), rI_ne _ _ (by decide), sA_at]; exact k2 y j hy hyx hj
