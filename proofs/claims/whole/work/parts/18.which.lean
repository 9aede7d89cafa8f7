/-! a letter of a word -/
theorem p_letL (a0 a1 : Int32) (h : Hp) {b : Nat} (hb : b < 900) : ∀ (d n rest i : Nat), d < n → i + d = b → rest < 1000000 → f_X5_letterAt_20 a0 a1 n (nI b) (nI rest) (nI i) h = some (nI (rest / 10 ^ d % 10), h) := by
  intro d
  induction d with
  | zero =>
    intro n rest i hn hd hr
    obtain ⟨n, rfl⟩ : ∃ m, n = m + 1 := ⟨n - 1, by omega⟩
    rw [s_X5_letterAt_20]
    unfold g_X5_letterAt_20
    rw [if_pos (by rw [nI_leI (by omega) (by omega)]; omega), L10, pk_rem (by omega) (by decide) (by decide)]
    simp
  | succ d ih =>
    intro n rest i hn hd hr
    obtain ⟨n, rfl⟩ : ∃ m, n = m + 1 := ⟨n - 1, by omega⟩
    rw [s_X5_letterAt_20]
    unfold g_X5_letterAt_20
    rw [if_neg (by rw [nI_leI (by omega) (by omega)]; omega), L10, pk_div (by omega) (by decide) (by decide), L1, nI_add, ih n _ _ (by omega) (by omega) (by omega), Nat.pow_succ, Nat.mul_comm, Nat.div_div_eq_div_mul]
theorem p_let {w p : Nat} (hw : w < 1000000) (hp : p < 5) (h : Hp) : f_X5_letterAt (nI w) (nI p) h = some (if p < szN 6 w then nI (w / 10 ^ (szN 6 w - 1 - p) % 10) else 0, h) := by
  have hs := szN_le 6 w
  unfold f_X5_letterAt
  rw [p_len hw, bnd_s, L1]
  by_cases q : p < szN 6 w
  · rw [pk_sub (show 1 ≤ szN 6 w by omega), pk_sub (show p ≤ szN 6 w - 1 by omega), if_pos (by rw [L0, nI_leI (by omega) (by omega)]; omega), L0, p_letL _ _ _ (by omega) (szN 6 w - 1 - p) FU w 0 (by unfold FU; omega) (by omega) hw, if_pos q]
  · have : ∀ s, s ≤ 6 → ∀ p, p < 5 → s ≤ p → ¬ (0 : Int32) ≤ nI s - nI 1 - nI p := by decide +kernel
    rw [if_neg (this _ hs p hp (by omega)), if_neg q]
theorem q_let {w p : Nat} (hw : w < 1000000) (hp : p < 5) (h : Hp) : f_X7_letterAt (nI w) (nI p) h = some (if p < szN 6 w then nI (w / 10 ^ (szN 6 w - 1 - p) % 10) else -9, h) := by
  have hs := szN_le 6 w
  unfold f_X7_letterAt
  rw [p_size hw, bnd_s]
  by_cases q : p < szN 6 w
  · have h6 : 10 ^ (szN 6 w - 1 - p) ≤ 10 ^ 5 := Nat.pow_le_pow_right (by decide) (by omega)
    have h0 : 0 < 10 ^ (szN 6 w - 1 - p) := Nat.pow_pos (by decide)
    have hd : w / 10 ^ (szN 6 w - 1 - p) ≤ w := Nat.div_le_self _ _
    rw [if_neg (by rw [nI_leI (by omega) (by omega)]; omega), L1, pk_sub (show 1 ≤ szN 6 w by omega), pk_sub (show p ≤ szN 6 w - 1 by omega), L10, p_pow _ _ (by omega), bnd_s, if_neg (by rw [L0, nI_eq (by omega) (by omega)]; omega), pk_div (by omega) h0 (by omega), pk_rem (by omega) (by decide) (by decide), if_pos q]
  · rw [if_pos (by rw [nI_leI (by omega) (by omega)]; omega), if_neg q]
/-- letter p of w is v -/
def isL (w p v : Nat) : Bool := decide (p < szN 6 w ∧ w / 10 ^ (szN 6 w - 1 - p) % 10 = v)
theorem isL_c {w p v : Nat} (h1 : 1 ≤ v) (h5 : v ≤ 5) : ((if p < szN 6 w then nI (w / 10 ^ (szN 6 w - 1 - p) % 10) else 0) = nI v) ↔ isL w p v = true := by
  unfold isL
  by_cases q : p < szN 6 w
  · rw [if_pos q, nI_eq (by omega) (by omega)]; simp [q]
  · rw [if_neg q, L0, nI_eq (by omega) (by omega)]; simp [q]; omega
theorem isL_m {w p v : Nat} (h1 : 1 ≤ v) (h5 : v ≤ 5) : ((if p < szN 6 w then nI (w / 10 ^ (szN 6 w - 1 - p) % 10) else -9) = nI v) ↔ isL w p v = true := by
  unfold isL
  by_cases q : p < szN 6 w
  · rw [if_pos q, nI_eq (by omega) (by omega)]; simp [q]
  · rw [if_neg q]
    have : ∀ v, v < 6 → ¬ (-9 : Int32) = nI v := by decide +kernel
    simp [q, this v (by omega)]
/-- what was seen at j is so of the word w -/
def sB (h : Hp) (w j : Nat) : Bool := isL w (h.1 54 j).toNatClampNeg (h.1 55 j).toNatClampNeg == decide (h.1 56 j = 1)
section WHICH
variable {h : Hp} {C R E : Nat} {ln rt en T : Nat → Nat} {S : Nat → Nat → Int32}
def wS (h : Hp) (C E : Nat) (ln en T : Nat → Nat) (S : Nat → Nat → Int32) (root j : Nat) : Nat := if inI (h.1 53 j) 0 (E - 1) = true then wlk ln S T 15 C (jn root (en (h.1 53 j).toNatClampNeg)) else 0
def agB (h : Hp) (C E : Nat) (ln en T : Nat → Nat) (S : Nat → Nat → Int32) (root : Nat) : Nat → Bool
  | 0 => true
  | j + 1 => agB h C E ln en T S root j && sB h (wS h C E ln en T S root j) j
theorem agB_mono {root : Nat} : ∀ {m e : Nat}, e ≤ m → agB h C E ln en T S root e = false → agB h C E ln en T S root m = false
  | 0, e, h, q => by rw [show e = 0 by omega] at q; exact q
  | m + 1, e, h, q => by
    by_cases z : e = m + 1
    · rw [z] at q; exact q
    · unfold agB
      rw [agB_mono (m := m) (e := e) (by omega) q]; rfl
theorem p_agL (K : WK h 9 C ln S T) (Z : SK h R E rt en) {root n : Nat} (hr : root < 1000) (hn : n ≤ 6) (g1 : h.1 36 4 = nI n) (gg : ∀ j, j < n → h.1 37 j = h.1 53 j ∧ h.1 38 j = h.1 54 j ∧ h.1 39 j = h.1 55 j ∧ h.1 40 j = h.1 56 j ∧ (h.1 56 j = 0 ∨ h.1 56 j = 1) ∧ (∃ p : Nat, p < 5 ∧ h.1 54 j = nI p) ∧ (∃ v : Nat, 1 ≤ v ∧ v ≤ 5 ∧ h.1 55 j = nI v)) : ∀ (d k j : Nat), d < k → j + d = n → agB h C E ln en T S root j = true → f_X1_agreeWith_3 36 (nI root) 6 9 k (nI j) h = some (b01 (agB h C E ln en T S root n), h) := by
  have hC := K.2.1
  have hE := Z.2.1
  intro d
  induction d with
  | zero =>
    intro k j hk hj hq
    obtain ⟨k, rfl⟩ : ∃ m, k = m + 1 := ⟨k - 1, by omega⟩
    rw [s_X1_agreeWith_3]
    unfold g_X1_agreeWith_3
    rw [g1, if_pos (by rw [nI_leI (by omega) (by omega)]; omega), show n = j by omega, hq]
    rfl
  | succ d ih =>
    intro k j hk hj hq
    obtain ⟨k, rfl⟩ : ∃ m, k = m + 1 := ⟨k - 1, by omega⟩
    obtain ⟨g37, g38, g39, g40, gw, ⟨p, hp, gp⟩, ⟨v, hv1, hv5, gv⟩⟩ := gg j (by omega)
    have i2 := ih k (j + 1) (by omega) (by omega)
    have tail : ∀ w, w < 1000000 → w = wS h C E ln en T S root j → g_X1_agreeWith_54 36 (nI root) 6 9 (f_X1_agreeWith_3 36 (nI root) 6 9 k) (nI j) (nI w) h = some (b01 (agB h C E ln en T S root n), h) := by
      intro w hw ew
      have eB : sB h w j = (isL w p v == decide (h.1 56 j = 1)) := by unfold sB; rw [gp, gv, nI_clamp (by omega), nI_clamp (by omega)]
      have fin : ∀ b : Bool, b = isL w p v → g_X1_agreeWith_83 36 (nI root) 6 9 (f_X1_agreeWith_3 36 (nI root) 6 9 k) (nI j) (b01 b) h = some (b01 (agB h C E ln en T S root n), h) := by
        intro b hb
        unfold g_X1_agreeWith_83
        rw [R36_3, N_40, if_pos (okI_n (by omega) (by decide)), nI_clamp (by omega), g40, L1, nI_add]
        by_cases q : b01 b = h.1 56 j
        · rw [if_pos q]
          refine i2 ?_
          rw [agB, hq, ← ew, eB, ← hb, ← q]
          cases b <;> rfl
        · rw [if_neg q, agB_mono (e := j + 1) (m := n) (by omega) ?_]
          · rfl
          · rw [agB, hq, ← ew, eB, ← hb]
            rcases gw with g0 | g0
            · rw [g0] at q ⊢
              cases b
              · exact absurd rfl q
              · rfl
            · rw [g0] at q ⊢
              cases b
              · rfl
              · exact absurd rfl q
      unfold g_X1_agreeWith_54
      rw [R36_1, R36_2, N_38, N_39, if_pos (okI_n (by omega) (by decide)), nI_clamp (by omega), g38, gp, p_let hw hp, bnd_s, if_pos (okI_n (by omega) (by decide)), g39, gv]
      by_cases q : isL w p v = true
      · rw [if_pos ((isL_c hv1 hv5).mpr q)]
        exact fin true q.symm
      · rw [if_neg (fun z => q ((isL_c hv1 hv5).mp z))]
        exact fin false (bfalse q).symm
    rw [s_X1_agreeWith_3]
    unfold g_X1_agreeWith_3
    rw [g1, if_neg (by rw [nI_leI (by omega) (by omega)]; omega), R36_0, R6_1, N_37, N_8, if_pos (okI_n (by omega) (by decide)), nI_clamp (by omega), g37, p_hasEnding Z, bnd_s, ifb]
    by_cases q : inI (h.1 53 j) 0 (E - 1) = true
    · obtain ⟨e, he, ge⟩ := inI_of (by omega) q
      have hen := (Z.2.2.2.2.2 e he)
      have hj6 : jn root (en e) < 1000000 := jn_lt (by omega) hen.2.2
      rw [if_pos q, if_pos (okI_n (by omega) (by decide)), g37, ge, if_pos (okI_n (by omega) (by decide)), nI_clamp (by omega), hen.1, p_join5 hen.2.2, bnd_s, K.2.2.1, p_walk K hj6 (Nat.le_refl _), bnd_s]
      refine tail _ (wlk_lt K.T10 C _ (Nat.le_refl _) hj6) ?_
      unfold wS
      rw [if_pos q, ge, nI_clamp (by omega)]
    · rw [if_neg q]
      refine tail 0 (by omega) ?_
      unfold wS
      rw [if_neg q]
theorem q_agL (K : MK h 43 C ln S T) (Z : NK h R E rt en) {root n : Nat} (hr : root < 1000) (hn : n ≤ 6) (g1 : h.1 41 26 = nI n) (gg : ∀ j, j < n → (h.1 56 j = 0 ∨ h.1 56 j = 1) ∧ (∃ p : Nat, p < 5 ∧ h.1 54 j = nI p) ∧ (∃ v : Nat, 1 ≤ v ∧ v ≤ 5 ∧ h.1 55 j = nI v)) : ∀ (d k j : Nat), d < k → j + d = n → f_X7_agrees_4 41 (nI root) k (b01 (agB h C E ln en T S root j)) (nI j) h = some (b01 (agB h C E ln en T S root n), h) := by
  have hC := K.2.1
  have hE := Z.2.1
  intro d
  induction d with
  | zero =>
    intro k j hk hj
    obtain ⟨k, rfl⟩ : ∃ m, k = m + 1 := ⟨k - 1, by omega⟩
    rw [s_X7_agrees_4]
    unfold g_X7_agrees_4
    rw [g1, if_pos (by rw [nI_leI (by omega) (by omega)]; omega), show n = j by omega, if_pos (by rw [okZ_b]; trivial)]
  | succ d ih =>
    intro k j hk hj
    obtain ⟨k, rfl⟩ : ∃ m, k = m + 1 := ⟨k - 1, by omega⟩
    obtain ⟨gw, ⟨p, hp, gp⟩, ⟨v, hv1, hv5, gv⟩⟩ := gg j (by omega)
    have i2 := ih k (j + 1) (by omega) (by omega)
    rw [agB] at i2
    have tail : ∀ w, w < 1000000 → w = wS h C E ln en T S root j → g_X7_agrees_57 41 (nI root) (f_X7_agrees_4 41 (nI root) k) (b01 (agB h C E ln en T S root j)) (nI j) (nI w) h = some (b01 (agB h C E ln en T S root n), h) := by
      intro w hw ew
      have eB : sB h w j = (isL w p v == decide (h.1 56 j = 1)) := by unfold sB; rw [gp, gv, nI_clamp (by omega), nI_clamp (by omega)]
      have fin : ∀ b : Bool, b = isL w p v → g_X7_agrees_84 41 (nI root) (f_X7_agrees_4 41 (nI root) k) (b01 (agB h C E ln en T S root j)) (nI j) (b01 b) h = some (b01 (agB h C E ln en T S root n), h) := by
        intro b hb
        unfold g_X7_agrees_84 g_X7_agrees_107 g_X7_agrees_114 g_X7_agrees_115
        rw [← i2, ← ew, eB, ← hb, R41_25, N_56, if_pos (okI_n (by omega) (by decide)), nI_clamp (by omega), ifb, L1, nI_add, ← L1]
        cases agB h C E ln en T S root j
        · rw [if_neg (by decide)]; rfl
        · rw [if_pos rfl]
          rcases gw with g0 | g0
          · rw [g0, if_neg (by decide)]
            cases b
            · rw [if_pos (by rfl)]; rfl
            · rw [if_neg (by decide)]; rfl
          · rw [g0, if_pos rfl]
            cases b
            · rw [if_neg (by decide)]; rfl
            · rw [if_pos (by rfl)]; rfl
      unfold g_X7_agrees_57
      rw [R41_23, R41_24, N_54, N_55, if_pos (okI_n (by omega) (by decide)), nI_clamp (by omega), gp, q_let hw hp, bnd_s, if_pos (okI_n (by omega) (by decide)), gv]
      by_cases q : isL w p v = true
      · rw [if_pos ((isL_m hv1 hv5).mpr q)]
        exact fin true q.symm
      · rw [if_neg (fun z => q ((isL_m hv1 hv5).mp z))]
        exact fin false (bfalse q).symm
    rw [s_X7_agrees_4]
    unfold g_X7_agrees_4
    rw [g1, if_neg (by rw [nI_leI (by omega) (by omega)]; omega), R41_22, R41_10, R41_2, N_53, N_49, if_pos (okI_n (by omega) (by decide)), nI_clamp (by omega), p_isEnding Z, bnd_s, ifb]
    by_cases q : inI (h.1 53 j) 0 (E - 1) = true
    · obtain ⟨e, he, ge⟩ := inI_of (by omega) q
      have hen := (Z.2.2.2.2.2 e he)
      have hj6 : jn root (en e) < 1000000 := jn_lt (by omega) hen.2.2
      rw [if_pos q, ge, if_pos (okI_n (by omega) (by decide)), nI_clamp (by omega), hen.1, p_join7 hen.2.1 hen.2.2, bnd_s, K.2.2.1, L15, p_behind K hj6 (by decide) (Nat.le_refl _), bnd_s]
      refine tail _ (wlk_lt K.T10 C _ (Nat.le_refl _) hj6) ?_
      unfold wS
      rw [if_pos q, ge, nI_clamp (by omega)]
    · rw [if_neg q]
      refine tail 0 (by omega) ?_
      unfold wS
      rw [if_neg q]
def rtK (k : Nat) : Nat := 111 + 100 * (k / 25) + 10 * (k / 5 % 5) + k % 5
theorem rtK_lt {k : Nat} (h : k < 125) : rtK k < 1000 := by unfold rtK; omega
theorem L111 : (111 : Int32) = nI 111 := rfl
theorem L125 : (125 : Int32) = nI 125 := rfl
theorem p_whL (y : Int32) {n : Nat} (ag : ∀ k, k < 125 → f_X1_agreeWith 36 (nI (rtK k)) 6 9 h = some (b01 (agB h C E ln en T S (rtK k) n), h)) : ∀ (d m k : Nat), d < m → k + d = 125 →
    f_X6_which_20 0 y m (nI (cU (fun k => agB h C E ln en T S (rtK k) n) k)) (fU (fun k => agB h C E ln en T S (rtK k) n) (fun k => nI (rtK k)) k) (nI k) h = if y = 0 then some (nI (cU (fun k => agB h C E ln en T S (rtK k) n) 125), h) else some (fU (fun k => agB h C E ln en T S (rtK k) n) (fun k => nI (rtK k)) 125, h) := by
  intro d
  induction d with
  | zero =>
    intro m k hm hk
    obtain ⟨m, rfl⟩ : ∃ j, m = j + 1 := ⟨m - 1, by omega⟩
    rw [s_X6_which_20]
    unfold g_X6_which_20
    rw [L125, if_pos (by rw [nI_leI (by omega) (by omega)]; omega), show k = 125 by omega]
  | succ d ih =>
    intro m k hm hk
    obtain ⟨m, rfl⟩ : ∃ j, m = j + 1 := ⟨m - 1, by omega⟩
    have hcl := cU_le (fun k => agB h C E ln en T S (rtK k) n) k
    have i2 := ih m (k + 1) (by omega) (by omega)
    rw [cU, fU] at i2
    rw [s_X6_which_20]
    unfold g_X6_which_20 g_X6_which_85 g_X6_which_89
    rw [R0_7, R0_1, R0_2, L125, if_neg (by rw [nI_leI (by omega) (by omega)]; omega), L111, L100, L10, L5, L25, pk_div (by omega) (by decide) (by decide), pk_rem (by omega) (by decide) (by decide), pk_div (by omega) (by decide) (by decide), pk_rem (by omega) (by decide) (by decide), pk_mul, pk_mul, nI_add, nI_add, nI_add]
    have ek : 111 + 100 * (k / 25) + 10 * (k / 5 % 5) + k % 5 = rtK k := rfl
    rw [ek, ag k (by omega), bnd_s, ifb]
    by_cases q : agB h C E ln en T S (rtK k) n = true
    · rw [if_pos q, if_pos q] at i2
      rw [if_pos q]
      by_cases q0 : cU (fun k => agB h C E ln en T S (rtK k) n) k = 0
      · rw [if_pos q0] at i2
        rw [if_pos (by rw [q0]; rfl), ← i2, L1, nI_add, nI_add]
      · rw [if_neg q0] at i2
        rw [if_neg (by rw [L0, nI_eq (by omega) (by omega)]; exact q0), ← i2, L1, nI_add, nI_add]
    · rw [if_neg q, if_neg q] at i2
      rw [if_neg q, ← i2, L1, nI_add]
      rfl
theorem q_whL (y : Int32) {n : Nat} (ag : ∀ k, k < 125 → f_X7_agrees 41 (nI (rtK k)) h = some (b01 (agB h C E ln en T S (rtK k) n), h)) : ∀ (k m : Nat), k < m → k ≤ 125 →
    f_X7_which_22 41 y m (nI (cD (fun k => agB h C E ln en T S (rtK k) n) 125 (125 - k))) (fD (fun k => agB h C E ln en T S (rtK k) n) (fun k => nI (rtK k)) 125 (125 - k)) (nI k - 1) h = if y = 0 then some (nI (cU (fun k => agB h C E ln en T S (rtK k) n) 125), h) else some (fU (fun k => agB h C E ln en T S (rtK k) n) (fun k => nI (rtK k)) 125, h) := by
  intro k
  induction k with
  | zero =>
    intro m hm hk
    obtain ⟨m, rfl⟩ : ∃ j, m = j + 1 := ⟨m - 1, by omega⟩
    have c1 := cD_cU (fun k => agB h C E ln en T S (rtK k) n) 125 125 (Nat.le_refl _)
    have c2 := fD_fU (fun k => agB h C E ln en T S (rtK k) n) (fun k => nI (rtK k)) 125 125 (Nat.le_refl _)
    rw [Nat.sub_self, cU, Nat.zero_add] at c1
    rw [Nat.sub_self, cU, if_pos rfl] at c2
    rw [s_X7_which_22]
    unfold g_X7_which_22
    rw [if_pos neg1, Nat.sub_zero, c1, c2]
  | succ k ih =>
    intro m hm hk
    obtain ⟨m, rfl⟩ : ∃ j, m = j + 1 := ⟨m - 1, by omega⟩
    have i2 := ih m (by omega) (by omega)
    rw [show 125 - k = (125 - (k + 1)) + 1 by omega, cD, fD, show 125 - (125 - (k + 1) + 1) = k by omega] at i2
    rw [s_X7_which_22]
    unfold g_X7_which_22 g_X7_which_73
    rw [nI_pred, if_neg (by rw [L0, nI_ltI (by omega) (by omega)]; omega), m1_eq, L100, L10, L5, L25, L1, pk_div (by omega) (by decide) (by decide), pk_rem (by omega) (by decide) (by decide), pk_div (by omega) (by decide) (by decide), pk_rem (by omega) (by decide) (by decide), nI_add, nI_add, pk_mul, pk_mul, nI_add, nI_add, nI_add]
    have ek : 100 * (k / 25 + 1) + 10 * (k / 5 % 5 + 1) + k % 5 + 1 = rtK k := by unfold rtK; omega
    rw [ek, ag k (by omega), bnd_s, ifb]
    by_cases q : agB h C E ln en T S (rtK k) n = true
    · rw [if_pos q, if_pos q] at i2
      rw [if_pos q, ← i2, nI_add, L1]
    · rw [if_neg q, if_neg q] at i2
      rw [if_neg q, ← i2, L1]
      rfl
end WHICH
theorem st_which {h : Hp} (H : Rel h) (y : Int32) : St (f_X6_which 0 y) (f_X7_which 41 y) h := by
  have H0 := H
  obtain ⟨C, hW, ⟨R, E, rt, en, Z, Zm⟩, -, ⟨n, hn, g1, g2, gg⟩, -⟩ := H
  have K := hW.wk
  have M := hW.mk
  by_cases q2 : inI y 0 1 = true
  · have q3 : y = 0 ∨ y = 1 := by
      obtain ⟨i, hi, rfl⟩ := inI_0 (n := 1) (by decide) q2
      rcases (show i = 0 ∨ i = 1 by omega) with rfl | rfl
      · exact Or.inl rfl
      · exact Or.inr rfl
    have a1 : ∀ k, k < 125 → f_X1_agreeWith 36 (nI (rtK k)) 6 9 h = some (b01 (agB h C E (lnH h 9) en (TH h 9) (SH h 9) (rtK k) n), h) := fun k hk => p_agL K Z (rtK_lt hk) hn g1 gg n FU 0 (by unfold FU; omega) (by omega) rfl
    have a2 : ∀ k, k < 125 → f_X7_agrees 41 (nI (rtK k)) h = some (b01 (agB h C E (lnH h 9) en (TH h 9) (SH h 9) (rtK k) n), h) := fun k hk => q_agL M Zm (rtK_lt hk) hn g2 (fun j hj => (gg j hj).2.2.2.2) n FU 0 (by unfold FU; omega) (by omega)
    have e1 := p_whL y a1 125 FU 0 (by decide) rfl
    have e2 := q_whL y a2 125 FU (by decide) (Nat.le_refl _)
    have e3 : f_X6_which 0 y h = f_X6_which_20 0 y FU (nI 0) (-9) (nI 0) h := by
      unfold f_X6_which g_X6_which_12
      rcases q3 with rfl | rfl
      · rw [if_pos rfl]; rfl
      · rw [if_neg (by decide), if_pos rfl]; rfl
    have e4 : f_X7_which 41 y h = f_X7_which_22 41 y FU (nI 0) (-9) (nI 125 - 1) h := by
      unfold f_X7_which
      rw [p_in32 _ _ _ 0 1 rfl rfl, bnd_s, ifb, if_pos q2]
      rfl
    by_cases q4 : y = 0
    · rw [if_pos q4] at e1 e2
      exact St_ro H0 (e3.trans e1) (e4.trans e2)
    · rw [if_neg q4] at e1 e2
      exact St_ro H0 (e3.trans e1) (e4.trans e2)
  · refine St_ro H0 (r := -2) ?_ ?_
    · unfold f_X6_which
      rw [if_neg (fun z => q2 (by rw [z]; decide)), if_neg (fun z => q2 (by rw [z]; decide))]
    · unfold f_X7_which
      rw [p_in32 _ _ _ 0 1 rfl rfl, bnd_s, ifb, if_neg q2]
