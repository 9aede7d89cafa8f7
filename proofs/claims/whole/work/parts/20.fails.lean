def pcN (s : Nat) : Nat := s % 2 + s / 2 % 2 + s / 4 % 2 + s / 8 % 2
set_option maxRecDepth 100000 in
theorem p_bitC : ∀ s, s < 16 → ∀ h : Hp, f_J6_bitCount_0f7a4 (nI s) h = some (nI (pcN s), h) := by
  intro s hs h
  unfold f_J6_bitCount_0f7a4
  revert s
  have e : ∀ (x y : Int32), x = y → (some (x, h) : Option (Int32 × Hp)) = some (y, h) := fun _ _ z => by rw [z]
  intro s hs
  apply e
  revert s
  decide +kernel
theorem onesL : ∀ s, s < 16 → ((((nI s >>> ((0 : Int32) &&& 31)) &&& 1) = nI (s % 2)) ∧ (((nI s >>> ((0 + 1 : Int32) &&& 31)) &&& 1) = nI (s / 2 % 2)) ∧ (((nI s >>> ((0 + 1 + 1 : Int32) &&& 31)) &&& 1) = nI (s / 4 % 2)) ∧ (((nI s >>> ((0 + 1 + 1 + 1 : Int32) &&& 31)) &&& 1) = nI (s / 8 % 2))) := by decide +kernel
theorem q_ones {s : Nat} (hs : s < 16) (h : Hp) : f_X7_ones (nI s) h = some (nI (pcN s), h) := by
  obtain ⟨e0, e1, e2, e3⟩ := onesL s hs
  unfold f_X7_ones
  rw [show FU = 995 + 1 + 1 + 1 + 1 + 1 from rfl, s_X7_ones_4]
  unfold g_X7_ones_4
  rw [if_neg (by decide), s_X7_ones_4]
  unfold g_X7_ones_4
  rw [if_neg (by decide), s_X7_ones_4]
  unfold g_X7_ones_4
  rw [if_neg (by decide), s_X7_ones_4]
  unfold g_X7_ones_4
  rw [if_neg (by decide), s_X7_ones_4]
  unfold g_X7_ones_4
  rw [if_pos (by decide), e0, e1, e2, e3, L0, nI_add, nI_add, nI_add, nI_add, Nat.zero_add]
  rfl
theorem pcN_le : ∀ C, C ≤ 4 → ∀ s, s < 2 ^ C → pcN s ≤ C := by decide +kernel
theorem shlC : ∀ C, C ≤ 4 → (1 : Int32) <<< (nI C &&& 31) = nI (2 ^ C) := by decide +kernel
theorem pow16 {C : Nat} (hC : C ≤ 4) : 2 ^ C ≤ 16 ∧ 0 < 2 ^ C := by
  have : 2 ^ C ≤ 2 ^ 4 := Nat.pow_le_pow_right (by decide) hC
  exact ⟨by omega, Nat.pow_pos (by decide)⟩
section FAILS
variable {h : Hp} {C R E : Nat} {ln rt en T : Nat → Nat} {S : Nat → Nat → Int32}
def flT (C : Nat) (ln T : Nat → Nat) (S : Nat → Nat → Int32) (w x s : Nat) : Nat := if wlk ln S T s C w = wlk ln S T 15 C w then (10 - x) ^ pcN s * x ^ (C - pcN s) else 0
def flS (C : Nat) (ln T : Nat → Nat) (S : Nat → Nat → Int32) (w x : Nat) : Nat → Nat
  | 0 => 0
  | s + 1 => flS C ln T S w x s + flT C ln T S w x s
theorem flT_le {w x s : Nat} (hC : C ≤ 4) (hx : x ≤ 10) (hs : s < 2 ^ C) : flT C ln T S w x s ≤ 10000 := by
  unfold flT
  split
  · have h1 : (10 - x) ^ pcN s ≤ 10 ^ pcN s := Nat.pow_le_pow_left (by omega) _
    have h2 : x ^ (C - pcN s) ≤ 10 ^ (C - pcN s) := Nat.pow_le_pow_left hx _
    have h3 := Nat.mul_le_mul h1 h2
    have h4 := pcN_le C hC s hs
    rw [← Nat.pow_add, show pcN s + (C - pcN s) = C by omega] at h3
    have h5 : 10 ^ C ≤ 10 ^ 4 := Nat.pow_le_pow_right (by decide) hC
    omega
  · omega
theorem flS_le {w x : Nat} (hC : C ≤ 4) (hx : x ≤ 10) : ∀ s, s ≤ 2 ^ C → flS C ln T S w x s ≤ s * 10000
  | 0, _ => by simp [flS]
  | s + 1, hs => by
    have h1 := flS_le (w := w) hC hx s (by omega)
    have h2 := flT_le (w := w) (ln := ln) (T := T) (S := S) hC hx (show s < 2 ^ C by omega)
    unfold flS
    omega
theorem p_flL (K : WK h 9 C ln S T) {w x : Nat} (hw : w < 1000000) (hx : x ≤ 10) (a1 a2 up : Int32) : ∀ (d n s : Nat), d < n → s + d = 2 ^ C →
    f_X6_fails_55 0 a1 a2 (nI x) up n (nI w) (nI (wlk ln S T 15 C w)) (nI (flS C ln T S w x s)) (nI s) h = f_X6_fraction (nI (flS C ln T S w x (2 ^ C))) (nI (10 ^ C)) up h := by
  have hC := K.2.1
  have h16 := pow16 hC
  intro d
  induction d with
  | zero =>
    intro n s hn hd
    obtain ⟨n, rfl⟩ : ∃ m, n = m + 1 := ⟨n - 1, by omega⟩
    rw [s_X6_fails_55]
    unfold g_X6_fails_55
    rw [R0_2, p_all K, bnd_s, if_pos (by rw [nI_ltI (by omega) (by omega)]; omega), K.2.2.1, L10, p_pow6 _ _ (by omega), bnd_s, show s = 2 ^ C by omega]
    cases f_X6_fraction (nI (flS C ln T S w x (2 ^ C))) (nI (10 ^ C)) up h with
    | none => rfl
    | some q => rfl
  | succ d ih =>
    intro n s hn hd
    obtain ⟨n, rfl⟩ : ∃ m, n = m + 1 := ⟨n - 1, by omega⟩
    have i2 := ih n (s + 1) (by omega) (by omega)
    rw [flS] at i2
    have l1 := wlk_lt (S := S) (set := s) K.T10 C w (Nat.le_refl _) hw
    have l2 := wlk_lt (S := S) (set := 15) K.T10 C w (Nat.le_refl _) hw
    have hp := pcN_le C hC s (by omega)
    rw [s_X6_fails_55]
    unfold g_X6_fails_55 g_X6_fails_119
    rw [R0_2, p_all K, bnd_s, if_neg (by rw [nI_ltI (by omega) (by omega)]; omega), p_walkWith K hw (by omega), bnd_s]
    unfold flT at i2
    by_cases q : wlk ln S T s C w = wlk ln S T 15 C w
    · rw [if_pos q] at i2
      rw [if_pos (by rw [q]), p_bitC s (by omega), bnd_s, L10, pk_sub hx, p_pow6 _ _ (by omega), bnd_s, K.2.2.1, pk_sub hp, p_pow6 _ _ (by omega), bnd_s, pk_mul, nI_add, L1, nI_add]
      exact i2
    · rw [if_neg q] at i2
      rw [if_neg (by rw [nI_eq (by omega) (by omega)]; exact q), L1, nI_add]
      exact i2
theorem q_flL (M : MK h 43 C ln S T) (Z : NK h R E rt en) {i e x : Nat} (hi : i < R) (he : e < E) (hx : x ≤ 10) (up : Int32) : ∀ (d n s : Nat), d < n → s + d = 2 ^ C →
    f_X7_fails_53 41 (nI i) (nI e) (nI x) up n (nI (wlk ln S T 15 C (jn (rt i) (en e)))) (nI (flS C ln T S (jn (rt i) (en e)) x s)) (nI s) h = f_X7_fraction (nI (flS C ln T S (jn (rt i) (en e)) x (2 ^ C))) (nI (10 ^ C)) up h := by
  have hC := M.2.1
  have h16 := pow16 hC
  have hw := Z.lt hi he
  intro d
  induction d with
  | zero =>
    intro n s hn hd
    obtain ⟨n, rfl⟩ : ∃ m, n = m + 1 := ⟨n - 1, by omega⟩
    rw [s_X7_fails_53]
    unfold g_X7_fails_53
    rw [M.2.2.1, shlC C hC, if_pos (by rw [nI_leI (by omega) (by omega)]; omega), L10, p_pow _ _ (by omega), bnd_s, show s = 2 ^ C by omega]
    cases f_X7_fraction (nI (flS C ln T S (jn (rt i) (en e)) x (2 ^ C))) (nI (10 ^ C)) up h with
    | none => rfl
    | some q => rfl
  | succ d ih =>
    intro n s hn hd
    obtain ⟨n, rfl⟩ : ∃ m, n = m + 1 := ⟨n - 1, by omega⟩
    have i2 := ih n (s + 1) (by omega) (by omega)
    rw [flS] at i2
    have l1 := wlk_lt (S := S) (set := s) M.T10 C _ (Nat.le_refl _) hw
    have l2 := wlk_lt (S := S) (set := 15) M.T10 C _ (Nat.le_refl _) hw
    have hp := pcN_le C hC s (by omega)
    rw [s_X7_fails_53]
    unfold g_X7_fails_53 g_X7_fails_93 g_X7_fails_127
    rw [M.2.2.1, shlC C hC, if_neg (by rw [nI_leI (by omega) (by omega)]; omega), q_ones (by omega), bnd_s, R41_2, p_madeBy M Z hi he (by omega), bnd_s]
    unfold flT at i2
    by_cases q : wlk ln S T s C (jn (rt i) (en e)) = wlk ln S T 15 C (jn (rt i) (en e))
    · rw [if_pos q] at i2
      rw [if_pos (by rw [q]), if_neg (by decide), L10, pk_sub hx, p_pow _ _ (by omega), bnd_s, M.2.2.1, pk_sub hp, p_pow _ _ (by omega), bnd_s, pk_mul, nI_add, L1, nI_add]
      exact i2
    · rw [if_neg q] at i2
      rw [if_neg (by rw [nI_eq (by omega) (by omega)]; exact q), if_pos rfl, L0, L1, nI_add, nI_add]
      exact i2
end FAILS
theorem st_fails {h : Hp} (H : Rel h) (x y z up : Int32) : St (f_X6_fails 0 x y z up) (f_X7_fails 41 x y z up) h := by
  have H0 := H
  obtain ⟨C, hW, ⟨R, E, rt, en, Z, Zm⟩, -⟩ := H
  have hR := Z.1
  have hE := Z.2.1
  have hC := hW.1
  have K := hW.wk
  have M := hW.mk
  have h16 := pow16 hC
  by_cases q : inI x 0 (R - 1) = true
  · by_cases q2 : inI y 0 (E - 1) = true
    · obtain ⟨i, hi, rfl⟩ := inI_of (by omega) q
      obtain ⟨e, he, rfl⟩ := inI_of (by omega) q2
      have e1 : z < 0 ↔ z.toInt < 0 := Int32.lt_iff_toInt_lt
      have e2 : z ≤ 10 ↔ z.toInt ≤ 10 := by rw [Int32.le_iff_toInt_le]; rfl
      by_cases q3 : inI z 0 10 = true
      · obtain ⟨k, hk, rfl⟩ := inI_0 (n := 10) (by decide) q3
        have a1 := p_flL K (Z.lt hi he) hk (nI i) (nI e) up (2 ^ C) FU 0 (by unfold FU; omega) (by omega)
        have a2 := q_flL M Zm hi he hk up (2 ^ C) FU 0 (by unfold FU; omega) (by omega)
        have hfl := flS_le (w := jn (rt i) (en e)) (ln := lnH h 9) (T := TH h 9) (S := SH h 9) hC hk (2 ^ C) (Nat.le_refl _)
        have h104 : 10 ^ C ≤ 10 ^ 4 := Nat.pow_le_pow_right (by decide) hC
        obtain ⟨r, f1, f2⟩ := frac_eq (v := nI (flS C (lnH h 9) (TH h 9) (SH h 9) (jn (rt i) (en e)) k (2 ^ C))) (A := flS C (lnH h 9) (TH h 9) (SH h 9) (jn (rt i) (en e)) k (2 ^ C)) (B := 10 ^ C) (by omega) (Or.inl rfl) (Nat.pow_pos (by decide)) (by omega) up h
        refine St_ro H0 (r := r) ?_ ?_
        · unfold f_X6_fails
          rw [R0_1, R0_2, p_hasPair Z, bnd_s, ifb, q, q2, if_pos (show (true && true) = true from rfl), if_neg (by rw [L0, nI_ltI (by omega) (by omega)]; omega), L10, if_pos (by rw [nI_leI (by omega) (by omega)]; omega), p_joined Z hi he, bnd_s, p_makeOf K Z hi he, bnd_s, ← f1, ← a1]
          rfl
        · unfold f_X7_fails
          rw [p_isRoot Zm, bnd_s, ifb, if_pos q, p_isEnding Zm, bnd_s, ifb, if_pos q2, p_in32 _ _ _ 0 10 rfl rfl, bnd_s, ifb, if_pos q3, R41_2, L15, p_madeBy M Zm hi he (by decide), bnd_s, ← f2, ← a2]
          rfl
      · have q4 : ¬ ((0 : Int) ≤ z.toInt ∧ z.toInt ≤ 10) := fun w => q3 (decide_eq_true w)
        refine St_ro H0 (r := -2) ?_ ?_
        · unfold f_X6_fails
          rw [R0_1, p_hasPair Z, bnd_s, ifb, q, q2, if_pos (show (true && true) = true from rfl)]
          by_cases q5 : z.toInt < 0
          · rw [if_pos (e1.mpr q5)]
          · rw [if_neg (fun w => q5 (e1.mp w)), if_neg (fun w => q4 ⟨by omega, e2.mp w⟩)]
        · unfold f_X7_fails
          rw [p_isRoot Zm, bnd_s, ifb, if_pos q, p_isEnding Zm, bnd_s, ifb, if_pos q2, p_in32 _ _ _ 0 10 rfl rfl, bnd_s, ifb, if_neg q3]
    · refine St_ro H0 (r := -1) ?_ ?_
      · unfold f_X6_fails
        rw [R0_1, p_hasPair Z, bnd_s, ifb, q, bfalse q2, if_neg (by decide)]
      · unfold f_X7_fails
        rw [p_isRoot Zm, bnd_s, ifb, if_pos q, p_isEnding Zm, bnd_s, ifb, if_neg q2]
  · refine St_ro H0 (r := -1) ?_ ?_
    · unfold f_X6_fails
      rw [R0_1, p_hasPair Z, bnd_s, ifb, bfalse q, if_neg (by simp)]
    · unfold f_X7_fails
      rw [p_isRoot Zm, bnd_s, ifb, if_neg q]
