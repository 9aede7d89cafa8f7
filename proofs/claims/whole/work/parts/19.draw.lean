theorem wb_tb (n : Nat) : (lN n).toBitVec = BitVec.ofNat 64 n := rfl
theorem wb_inj {a b : Int64} (h : a.toBitVec = b.toBitVec) : a = b := Int64.toBitVec_inj.mp h
theorem wb_tn {n : Nat} (h : n < 2 ^ 64) : (lN n).toBitVec.toNat = n := by rw [wb_tb, BitVec.toNat_ofNat, Nat.mod_eq_of_lt h]
theorem wb_of (x : Int64) : ∃ n, n < 2 ^ 64 ∧ x = lN n := ⟨x.toBitVec.toNat, x.toBitVec.isLt, wb_inj (by rw [wb_tb]; simp)⟩
theorem wb_cu : ∀ k, k < 64 → ((nI k).toInt64.toUInt64 &&& Int64.toUInt64 63) = UInt64.ofNat k := by decide +kernel
theorem wb_shr {n k : Nat} (hn : n < 2 ^ 64) (hk : k < 64) : ((lN n).toUInt64 >>> ((nI k).toInt64.toUInt64 &&& Int64.toUInt64 63)).toInt64 = lN (n / 2 ^ k) := by
  rw [wb_cu k hk]
  apply wb_inj
  apply BitVec.eq_of_toNat_eq
  show ((lN n).toUInt64 >>> UInt64.ofNat k).toNat = (BitVec.ofNat 64 _).toNat
  have h1 : (UInt64.ofNat k).toNat = k := by
    show (BitVec.ofNat 64 k).toNat = k
    rw [BitVec.toNat_ofNat, Nat.mod_eq_of_lt (by omega)]
  have h2 : (lN n).toUInt64.toNat = n := wb_tn hn
  rw [UInt64.toNat_shiftRight, h1, h2, Nat.mod_eq_of_lt hk, Nat.shiftRight_eq_div_pow, BitVec.toNat_ofNat, Nat.mod_eq_of_lt (Nat.lt_of_le_of_lt (Nat.div_le_self _ _) hn)]
theorem pf_lI {a : Nat} (h : a < 2 ^ 63) : (lN a).toInt = (a : Int) := lg_ofNat_toInt h
theorem pf_shr {a d : Nat} {D : Int64} (hD : (D.toBitVec.smod 64).toNat = d) (h : a < 2 ^ 62) : lN a >>> D = lN (a / 2 ^ d) := by
  have hd : a / 2 ^ d ≤ a := Nat.div_le_self _ _
  apply Int64.toInt_inj.mp
  have e : (lN a >>> D).toInt = (lN a).toInt >>> d := by
    rw [← hD]
    exact BitVec.toInt_sshiftRight ..
  rw [e, Int.shiftRight_eq_div_pow, pf_lI (by omega), pf_lI (by omega)]
  rfl
theorem sL_sL (h : Hp) (i : Nat) (v w : Int64) : sL (sL h i v) i w = sL h i w := by
  unfold sL
  congr 1
  funext a
  by_cases q : a = i <;> simp [q]
theorem sL_self (h : Hp) (i : Nat) : sL h i (h.2 i) = h := by
  unfold sL
  cases h
  congr 1
  funext a
  by_cases q : a = i <;> simp [q]
def sdN (s : Int64) : Nat → Int64
  | 0 => s
  | k + 1 => sdN s k * 6364136223846793005 + 1442695040888963407
def btN (s : Int64) : Nat := s.toBitVec.toNat / 2 ^ 33
theorem btN_lt (s : Int64) : btN s < 2 ^ 31 := by
  unfold btN
  have := s.toBitVec.isLt
  omega
theorem bt_eq (s : Int64) : (s.toUInt64 >>> ((33 : Int32).toInt64.toUInt64 &&& Int64.toUInt64 63)).toInt64 = lN (btN s) := by
  obtain ⟨n, hn, rfl⟩ := wb_of s
  unfold btN
  rw [wb_tn hn]
  exact wb_shr (k := 33) hn (by decide)
def rtD (b : Nat) : Nat := 1000 * (b % 5 + 1) + 100 * (b / 8 % 5 + 1) + 10 * (b / 64 % 5 + 1) + (b / 512 % 5 + 1)
theorem rtD_lt (b : Nat) : rtD b < 1000000 := by unfold rtD; omega
theorem p_rtD {b : Nat} (hb : b < 2 ^ 31) (h : Hp) : f_X6_rootDrawnFrom (nI b) h = some (nI (rtD b), h) := by
  unfold f_X6_rootDrawnFrom rtD
  rw [show (1000 : Int32) = nI 1000 from rfl, L100, L10, L5, L1, show (8 : Int32) = nI 8 from rfl, show (64 : Int32) = nI 64 from rfl, show (512 : Int32) = nI 512 from rfl, pk_rem hb (by decide) (by decide), pk_div hb (by decide) (by decide), pk_div hb (by decide) (by decide), pk_div hb (by decide) (by decide), pk_rem (by omega) (by decide) (by decide), pk_rem (by omega) (by decide) (by decide), pk_rem (by omega) (by decide) (by decide)]
  simp only [nI_add, pk_mul]
section DRAW
variable {h : Hp} {C : Nat} {ln T : Nat → Nat} {S : Nat → Nat → Int32}
def drW (C : Nat) (ln T : Nat → Nat) (S : Nat → Nat → Int32) (s : Int64) (k : Nat) : Nat := szN 6 (wlk ln S T 15 C (rtD (btN (sdN s (k + 1)))))
def drS (C : Nat) (ln T : Nat → Nat) (S : Nat → Nat → Int32) (s : Int64) : Nat → Nat
  | 0 => 0
  | k + 1 => drS C ln T S s k + drW C ln T S s k
theorem p_drL (K : WK h 9 C ln S T) {m : Nat} (hm : m ≤ 20) (s : Int64) : ∀ (d n k : Nat), d < n → k + d = m → f_X6_drawn_18 0 (nI m) n (nI (drS C ln T S s k)) (nI k) (sL h 0 (sdN s k)) = some (nI (drS C ln T S s m), sL h 0 (sdN s m)) := by
  intro d
  induction d with
  | zero =>
    intro n k hn hd
    obtain ⟨n, rfl⟩ : ∃ m, n = m + 1 := ⟨n - 1, by omega⟩
    rw [s_X6_drawn_18]
    unfold g_X6_drawn_18
    rw [if_pos (by rw [nI_leI (by omega) (by omega)]; omega), show k = m by omega]
  | succ d ih =>
    intro n k hn hd
    obtain ⟨n, rfl⟩ : ∃ m, n = m + 1 := ⟨n - 1, by omega⟩
    have i2 := ih n (k + 1) (by omega) (by omega)
    have K' : WK (sL h 0 (sdN s (k + 1))) 9 C ln S T := K
    have e1 : sL (sL h 0 (sdN s k)) 0 ((sL h 0 (sdN s k)).2 0 * 6364136223846793005 + 1442695040888963407) = sL h 0 (sdN s (k + 1)) := by rw [sL_sL, sL_at]; rfl
    rw [s_X6_drawn_18]
    unfold g_X6_drawn_18
    rw [if_neg (by rw [nI_leI (by omega) (by omega)]; omega), e1, sL_at, bt_eq, lN_i, p_rtD (btN_lt _), bnd_s, R0_2, K'.2.2.1, p_walk K' (rtD_lt _) (Nat.le_refl _), bnd_s, p_len (wlk_lt K.T10 C _ (Nat.le_refl _) (rtD_lt _)), bnd_s, L1, nI_add, nI_add]
    exact i2
theorem q_dr1 (M : MK h 43 C ln S T) (a : Int32) (k19 : Int32 → Int32 → Hp → Option (Int32 × Hp)) (x y : Int32) {b : Nat} (hb : b < 2 ^ 31) : f_X7_drawn_55 41 a k19 FU x y (lN b) 0 0 h = k19 (x + nI (szN 6 (wlk ln S T 15 C (rtD b)))) (y + 1) h := by
  have h5 : (5 : Int64) = lN 5 := rfl
  rw [show FU = 995 + 1 + 1 + 1 + 1 + 1 from rfl, s_X7_drawn_55]
  unfold g_X7_drawn_55
  rw [if_neg (by decide), pf_shr (d := 0) (by decide) (by omega), s_X7_drawn_55]
  unfold g_X7_drawn_55
  rw [if_neg (by decide), pf_shr (d := 3) (by decide) (by omega), s_X7_drawn_55]
  unfold g_X7_drawn_55
  rw [if_neg (by decide), pf_shr (d := 6) (by decide) (by omega), s_X7_drawn_55]
  unfold g_X7_drawn_55
  rw [if_neg (by decide), pf_shr (d := 9) (by decide) (by omega), s_X7_drawn_55]
  unfold g_X7_drawn_55
  rw [if_pos (by decide), h5, pk_lRem (by omega) (by decide) (by decide), pk_lRem (by omega) (by decide) (by decide), pk_lRem (by omega) (by decide) (by decide), pk_lRem (by omega) (by decide) (by decide), lN_i, lN_i, lN_i, lN_i, L10, L0, L1]
  simp only [nI_add, pk_mul]
  have e : 10 * (10 * (10 * (10 * 0 + b / 2 ^ 0 % 5 + 1) + b / 2 ^ 3 % 5 + 1) + b / 2 ^ 6 % 5 + 1) + b / 2 ^ 9 % 5 + 1 = rtD b := by
    unfold rtD
    simp only [Nat.reducePow, Nat.div_one]
    omega
  rw [e, R41_2, M.2.2.1, L15, p_behind M (rtD_lt b) (by decide) (Nat.le_refl _), bnd_s, p_size (wlk_lt M.T10 C _ (Nat.le_refl _) (rtD_lt _)), bnd_s]
theorem q_drL (M : MK h 43 C ln S T) {m : Nat} (hm : m ≤ 20) (s : Int64) : ∀ (d n k : Nat), d < n → k + d = m → f_X7_drawn_19 41 (nI m) n (nI (drS C ln T S s k)) (nI k) (sL h 41 (sdN s k)) = some (nI (drS C ln T S s m), sL h 41 (sdN s m)) := by
  intro d
  induction d with
  | zero =>
    intro n k hn hd
    obtain ⟨n, rfl⟩ : ∃ m, n = m + 1 := ⟨n - 1, by omega⟩
    rw [s_X7_drawn_19]
    unfold g_X7_drawn_19
    rw [if_pos (by rw [nI_leI (by omega) (by omega)]; omega), show k = m by omega]
  | succ d ih =>
    intro n k hn hd
    obtain ⟨n, rfl⟩ : ∃ m, n = m + 1 := ⟨n - 1, by omega⟩
    have i2 := ih n (k + 1) (by omega) (by omega)
    have M' : MK (sL h 41 (sdN s (k + 1))) 43 C ln S T := M
    have e1 : sL (sL h 41 (sdN s k)) 41 ((sL h 41 (sdN s k)).2 41 * 6364136223846793005 + 1442695040888963407) = sL h 41 (sdN s (k + 1)) := by rw [sL_sL, sL_at]; rfl
    rw [s_X7_drawn_19]
    unfold g_X7_drawn_19
    rw [if_neg (by rw [nI_leI (by omega) (by omega)]; omega), e1, sL_at, bt_eq, q_dr1 M' _ _ _ _ (btN_lt _), L1, nI_add, nI_add]
    exact i2
end DRAW
theorem st_drawn {h : Hp} (H : Rel h) (x : Int32) : St (f_X6_drawn 0 x) (f_X7_drawn 41 x) h := by
  have H0 := H
  obtain ⟨C, hW, hS, hT, hG, hK, hD, hZ⟩ := H
  have K := hW.wk
  have M := hW.mk
  have e1 : x < 1 ↔ x.toInt < 1 := by rw [Int32.lt_iff_toInt_lt]; rfl
  have e2 : x ≤ 20 ↔ x.toInt ≤ 20 := by rw [Int32.le_iff_toInt_le]; rfl
  by_cases q : inI x 1 20 = true
  · have q3 := of_decide_eq_true q
    obtain ⟨m, hm, rfl⟩ := nI_of (x := x) (fun z => by rw [Int32.lt_iff_toInt_lt] at z; have z2 : x.toInt < 0 := z; omega)
    rw [nI_toInt hm] at q3
    have a1 := p_drL K (m := m) (by omega) (h.2 0) m FU 0 (by unfold FU; omega) (by omega)
    rw [sdN, sL_self] at a1
    have M' : MK (sL h 0 (sdN (h.2 0) m)) 43 C (lnH h 9) (SH h 9) (TH h 9) := M
    have a2 := q_drL M' (m := m) (by omega) (h.2 0) m FU 0 (by unfold FU; omega) (by omega)
    have e3 : sL (sL h 0 (sdN (h.2 0) m)) 41 (sdN (h.2 0) 0) = sL h 0 (sdN (h.2 0) m) := by
      have : (sL h 0 (sdN (h.2 0) m)).2 41 = h.2 0 := by rw [sL_ne _ _ (by decide), hZ]
      have h2 := sL_self (sL h 0 (sdN (h.2 0) m)) 41
      rw [this] at h2
      exact h2
    rw [e3] at a2
    refine ⟨nI (drS C (lnH h 9) (TH h 9) (SH h 9) (h.2 0) m), sL h 0 (sdN (h.2 0) m), sL (sL h 0 (sdN (h.2 0) m)) 41 (sdN (h.2 0) m), ?_, ?_, ?_⟩
    · unfold f_X6_drawn
      rw [if_neg (fun z => by have := e1.mp z; rw [nI_toInt hm] at this; omega), if_pos (e2.mpr (by rw [nI_toInt hm]; omega))]
      exact a1
    · unfold f_X7_drawn
      rw [p_in32 _ _ _ 1 20 rfl rfl, bnd_s, ifb, if_pos q]
      exact a2
    · exact ⟨C, hW, hS, hT, hG, hK, hD, by rw [sL_at, sL_ne _ _ (by decide), sL_at]⟩
  · have q3 : ¬ ((1 : Int) ≤ x.toInt ∧ x.toInt ≤ 20) := fun z => q (decide_eq_true z)
    refine St_ro H0 (r := -2) ?_ ?_
    · unfold f_X6_drawn
      by_cases q5 : x.toInt < 1
      · rw [if_pos (e1.mpr q5)]
      · rw [if_neg (fun z => q5 (e1.mp z)), if_neg (fun z => q3 ⟨by omega, e2.mp z⟩)]
    · unfold f_X7_drawn
      rw [p_in32 _ _ _ 1 20 rfl rfl, bnd_s, ifb, if_neg q]
/-! fractions -/
theorem p_gcd (a1 a2 : Int32) (h : Hp) : ∀ (k n a b i : Nat), 2 * k + 1 ≤ n → i + 2 * k + 1 ≤ 64 → a < 2 ^ 31 → b < 2 ^ k → b < 2 ^ 31 → f_X6_sharedDivisor_7 a1 a2 n (nI a) (nI b) (nI i) h = some (nI (Nat.gcd a b), h) := by
  have h64 : (64 : Int32) = nI 64 := rfl
  intro k
  induction k with
  | zero =>
    intro n a b i hn hi ha hb hb2
    obtain ⟨n, rfl⟩ : ∃ m, n = m + 1 := ⟨n - 1, by omega⟩
    have hb0 : b = 0 := by simpa using hb
    subst hb0
    rw [s_X6_sharedDivisor_7]
    unfold g_X6_sharedDivisor_7
    rw [h64, if_neg (by rw [nI_leI (by omega) (by omega)]; omega), if_pos (by rfl), Nat.gcd_zero_right]
  | succ k ih =>
    intro n a b i hn hi ha hb hb2
    obtain ⟨n, rfl⟩ : ∃ m, n = m + 1 + 1 := ⟨n - 2, by omega⟩
    rw [s_X6_sharedDivisor_7]
    unfold g_X6_sharedDivisor_7
    rw [h64, if_neg (by rw [nI_leI (by omega) (by omega)]; omega)]
    by_cases q : b = 0
    · subst q
      rw [if_pos (by rfl), Nat.gcd_zero_right]
    · have hb' := Nat.mod_lt a (show 0 < b by omega)
      rw [if_neg (by rw [L0, nI_eq (by omega) (by omega)]; exact q), if_neg (by rw [L0, nI_eq (by omega) (by omega)]; exact q), pk_rem ha (by omega) hb2, L1, nI_add, s_X6_sharedDivisor_7]
      unfold g_X6_sharedDivisor_7
      rw [h64, if_neg (by rw [nI_leI (by omega) (by omega)]; omega)]
      have e1 : Nat.gcd a b = Nat.gcd b (a % b) := by rw [Nat.gcd_comm, Nat.gcd_rec, Nat.gcd_comm]
      by_cases q2 : a % b = 0
      · rw [if_pos (by rw [q2]; rfl), e1, q2, Nat.gcd_zero_right]
      · have hc := Nat.mod_lt b (show 0 < a % b by omega)
        have e2 : Nat.gcd b (a % b) = Nat.gcd (a % b) (b % (a % b)) := by rw [Nat.gcd_comm, Nat.gcd_rec, Nat.gcd_comm]
        have hle : b % (a % b) ≤ b - (a % b) := by
          rw [Nat.mod_eq_sub_mod (by omega)]
          exact Nat.mod_le _ _
        have hp : 2 ^ (k + 1) = 2 ^ k * 2 := Nat.pow_succ ..
        rw [if_neg (by rw [L0, nI_eq (by omega) (by omega)]; exact q2), if_neg (by rw [L0, nI_eq (by omega) (by omega)]; exact q2), pk_rem hb2 (by omega) (by omega), L1, nI_add, ih n _ _ _ (by omega) (by omega) (by omega) (by omega) (by omega), e1, e2]
theorem q_gcd (a1 a2 : Int32) (h : Hp) : ∀ (k n a b : Nat), 2 * k + 1 ≤ n → a < 2 ^ 31 → b < 2 ^ k → b < 2 ^ 31 → f_X7_divisor_13 a1 a2 n (nI a) (nI b) h = some (nI (Nat.gcd a b), h) := by
  intro k
  induction k with
  | zero =>
    intro n a b hn ha hb hb2
    obtain ⟨n, rfl⟩ : ∃ m, n = m + 1 := ⟨n - 1, by omega⟩
    have hb0 : b = 0 := by simpa using hb
    subst hb0
    rw [s_X7_divisor_13]
    unfold g_X7_divisor_13
    rw [if_pos (by rfl), Nat.gcd_zero_right]
  | succ k ih =>
    intro n a b hn ha hb hb2
    obtain ⟨n, rfl⟩ : ∃ m, n = m + 1 + 1 := ⟨n - 2, by omega⟩
    rw [s_X7_divisor_13]
    unfold g_X7_divisor_13
    by_cases q : b = 0
    · subst q
      rw [if_pos (by rfl), Nat.gcd_zero_right]
    · have hb' := Nat.mod_lt a (show 0 < b by omega)
      rw [if_neg (by rw [L0, nI_eq (by omega) (by omega)]; exact q), if_neg (by rw [L0, nI_eq (by omega) (by omega)]; exact q), pk_rem ha (by omega) hb2, s_X7_divisor_13]
      unfold g_X7_divisor_13
      have e1 : Nat.gcd a b = Nat.gcd b (a % b) := by rw [Nat.gcd_comm, Nat.gcd_rec, Nat.gcd_comm]
      by_cases q2 : a % b = 0
      · rw [if_pos (by rw [q2]; rfl), e1, q2, Nat.gcd_zero_right]
      · have hc := Nat.mod_lt b (show 0 < a % b by omega)
        have e2 : Nat.gcd b (a % b) = Nat.gcd (a % b) (b % (a % b)) := by rw [Nat.gcd_comm, Nat.gcd_rec, Nat.gcd_comm]
        have hle : b % (a % b) ≤ b - (a % b) := by
          rw [Nat.mod_eq_sub_mod (by omega)]
          exact Nat.mod_le _ _
        have hp : 2 ^ (k + 1) = 2 ^ k * 2 := Nat.pow_succ ..
        rw [if_neg (by rw [L0, nI_eq (by omega) (by omega)]; exact q2), if_neg (by rw [L0, nI_eq (by omega) (by omega)]; exact q2), pk_rem hb2 (by omega) (by omega), ih n _ _ (by omega) (by omega) (by omega) (by omega), e1, e2]
theorem abs_c {v : Int32} {A : Nat} (hA : A < 2 ^ 31) (hv : v = nI A ∨ v = -nI A) : (if 0 ≤ v then v else 0 - v) = nI A := by
  rcases hv with rfl | rfl
  · rw [if_pos (by rw [L0, nI_leI (by omega) (by omega)]; omega)]
  · by_cases q : A = 0
    · subst q; decide
    · rw [if_neg]
      · rw [Int32.zero_sub, Int32.neg_neg]
      · rw [Int32.le_iff_toInt_le, sb_negT hA]
        show ¬ (0 : Int) ≤ _
        omega
theorem frac_val {v : Int32} {A B : Nat} (hA : A < 2 ^ 31) (hv : v = nI A ∨ v = -nI A) (hB0 : 0 < B) (hB : B < 2 ^ 14) (up : Int32) (h : Hp) : f_X6_fraction v (nI B) up h = some (if up = 0 then nI B / nI (Nat.gcd A B) else v / nI (Nat.gcd A B), h) ∧ f_X7_fraction v (nI B) up h = some (if up = 0 then nI B / nI (Nat.gcd A B) else v / nI (Nat.gcd A B), h) := by
  have g1 : f_X6_sharedDivisor (nI A) (nI B) h = some (nI (Nat.gcd A B), h) := p_gcd _ _ h 14 FU A B 0 (by decide) (by decide) hA hB (by omega)
  have g2 : ∀ x y, f_X7_divisor_13 x y FU (nI A) (nI B) h = some (nI (Nat.gcd A B), h) := fun x y => q_gcd _ _ h 14 FU A B (by decide) hA hB (by omega)
  have hg0 : 0 < Nat.gcd A B := Nat.gcd_pos_of_pos_right _ hB0
  have hgB : Nat.gcd A B ≤ B := Nat.gcd_le_right _ hB0
  have hne : ¬ nI (Nat.gcd A B) = 0 := by rw [L0, nI_eq (by omega) (by omega)]; omega
  have g3 : f_X7_divisor v (nI B) h = some (nI (Nat.gcd A B), h) := by
    unfold f_X7_divisor g_X7_divisor_10
    have ha := abs_c hA hv
    by_cases q : 0 ≤ v
    · rw [if_pos q] at ha ⊢
      rw [ha]
      exact g2 _ _
    · rw [if_neg q] at ha ⊢
      rw [Int32.zero_sub] at ha
      rw [ha]
      exact g2 _ _
  have num : ∀ z : Int32, g_X6_fraction_18 v (nI B) up (nI (Nat.gcd A B)) z h = some (z / nI (Nat.gcd A B), h) := by
    intro z
    unfold g_X6_fraction_18
    by_cases q : Nat.gcd A B = 1
    · rw [if_pos (by rw [q]; decide), q]
      rw [show nI 1 = 1 from rfl, Int32.div_one]
    · rw [if_neg (by rw [L1, nI_leI (by omega) (by omega)]; omega), if_neg hne]
  unfold f_X6_fraction f_X7_fraction
  rw [abs_c hA hv, g1, bnd_s, g3, bnd_s, num, num, if_neg hne, if_neg hne]
  by_cases q : up = 0
  · simp only [if_pos q]; exact ⟨trivial, trivial⟩
  · simp only [if_neg q]; exact ⟨trivial, trivial⟩
theorem frac_eq {v : Int32} {A B : Nat} (hA : A < 2 ^ 31) (hv : v = nI A ∨ v = -nI A) (hB0 : 0 < B) (hB : B < 2 ^ 14) (up : Int32) (h : Hp) : ∃ r, f_X6_fraction v (nI B) up h = some (r, h) ∧ f_X7_fraction v (nI B) up h = some (r, h) := ⟨_, frac_val hA hv hB0 hB up h⟩
