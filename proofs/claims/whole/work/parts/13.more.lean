/-! ranges -/
def inI (x : Int32) (lo hi : Int) : Bool := decide (lo ≤ x.toInt ∧ x.toInt ≤ hi)
theorem p_in (a b c : Int64) (h : Hp) : f_X7_in a b c h = some (b01 (decide (b.toInt ≤ a.toInt ∧ a.toInt ≤ c.toInt)), h) := by
  unfold f_X7_in lg_cmp b01
  simp only [gt_iff_lt, Int64.lt_iff_toInt_lt, ← Int64.toInt_inj]
  by_cases q1 : b.toInt ≤ a.toInt
  · by_cases q2 : a.toInt ≤ c.toInt
    · rw [if_neg, if_neg]
      · simp [q1, q2]
      · rw [if_neg (by omega)]; split <;> decide
      · by_cases q3 : b.toInt < a.toInt
        · rw [if_pos q3]; decide
        · rw [if_neg q3, if_pos (by omega)]; decide
    · rw [if_neg, if_pos]
      · simp [q2]
      · rw [if_pos (by omega)]; decide
      · by_cases q3 : b.toInt < a.toInt
        · rw [if_pos q3]; decide
        · rw [if_neg q3, if_pos (by omega)]; decide
  · rw [if_pos]
    · simp [q1]
    · rw [if_neg (by omega), if_neg (by omega)]; decide
theorem p_in32 (x : Int32) (b c : Int64) (lo hi : Int) (hb : b.toInt = lo) (hc : c.toInt = hi) (h : Hp) : f_X7_in x.toInt64 b c h = some (b01 (inI x lo hi), h) := by
  rw [p_in, hb, hc, Int32.toInt_toInt64]
  rfl
theorem inI_of {x : Int32} {n : Nat} (hn : n < 2 ^ 31) (h : inI x 0 (n - 1) = true) : ∃ i : Nat, i < n ∧ x = nI i := by
  have h2 := of_decide_eq_true h
  obtain ⟨j, hj, rfl⟩ := vp_in_of (x := x) (n := n) (vp_in_iff.mpr ⟨h2.1, by omega⟩) hn
  exact ⟨j, hj, rfl⟩
theorem inI_0 {x : Int32} {n : Nat} (hn : n < 2 ^ 31) (h : inI x 0 n = true) : ∃ i : Nat, i ≤ n ∧ x = nI i := by
  have h2 := of_decide_eq_true h
  obtain ⟨j, hj, rfl⟩ := nI_of (x := x) (by rw [Int32.lt_iff_toInt_lt]; show ¬ _ < (0 : Int); omega)
  rw [nI_toInt hj] at h2
  exact ⟨j, by omega, rfl⟩
theorem has2 (x : Int32) {n : Nat} (hn : n < 2 ^ 31) (h : Hp) : (if x < 0 then some ((0 : Int32), h) else if nI n ≤ x then some (0, h) else some (1, h)) = some (b01 (inI x 0 (n - 1)), h) := by
  unfold inI b01
  have e1 : x < 0 ↔ x.toInt < 0 := Int32.lt_iff_toInt_lt
  have e2 : nI n ≤ x ↔ (n : Int) ≤ x.toInt := by rw [Int32.le_iff_toInt_le, nI_toInt hn]
  by_cases q1 : x.toInt < 0
  · rw [if_pos (e1.mpr q1), if_neg (by simp; omega)]
  · rw [if_neg (fun z => q1 (e1.mp z))]
    by_cases q2 : (n : Int) ≤ x.toInt
    · rw [if_pos (e2.mpr q2), if_neg (by simp; omega)]
    · rw [if_neg (fun z => q2 (e2.mp z)), if_pos (by simp; omega)]
section MORE
variable {h : Hp} {a r C R E set : Nat} {ln rt en T : Nat → Nat} {S : Nat → Nat → Int32} {fm : Nat → Int32}
theorem p_hasRoot (Z : SK h R E rt en) (x : Int32) : f_X2_hasRoot 6 x h = some (b01 (inI x 0 (R - 1)), h) := by
  unfold f_X2_hasRoot
  rw [Z.2.2.1]
  exact has2 x (by have := Z.1; omega) h
theorem p_hasEnding (Z : SK h R E rt en) (x : Int32) : f_X2_hasEnding 6 x h = some (b01 (inI x 0 (E - 1)), h) := by
  unfold f_X2_hasEnding
  rw [Z.2.2.2.1]
  exact has2 x (by have := Z.2.1; omega) h
theorem p_hasChange (K : WK h a C ln S T) (x : Int32) : f_X4_hasChange a x h = some (b01 (inI x 0 (C - 1)), h) := by
  unfold f_X4_hasChange
  rw [K.2.2.1]
  exact has2 x (by have := K.2.1; omega) h
theorem p_hasPair (Z : SK h R E rt en) (x y : Int32) : f_X2_hasPair 6 x y h = some (b01 (inI x 0 (R - 1) && inI y 0 (E - 1)), h) := by
  unfold f_X2_hasPair
  rw [p_hasRoot Z, bnd_s, ifb]
  by_cases q : inI x 0 (R - 1) = true
  · rw [if_pos q, p_hasEnding Z, bnd_s, ifb, q]
    by_cases q2 : inI y 0 (E - 1) = true
    · rw [if_pos q2, q2]; rfl
    · rw [if_neg q2]; simp only [Bool.not_eq_true] at q2; rw [q2]; rfl
  · rw [if_neg q]; simp only [Bool.not_eq_true] at q; rw [q]; rfl
theorem pred_i {n : Nat} (hn : n < 2 ^ 30) : (nI n - 1).toInt64.toInt = (n : Int) - 1 := by
  rw [Int32.toInt_toInt64, L1, pk_sub_toInt hn (by decide)]
  rfl
theorem p_isRoot (Z : NK h R E rt en) (x : Int32) : f_X7_isRoot 41 x h = some (b01 (inI x 0 (R - 1)), h) := by
  unfold f_X7_isRoot
  rw [Z.2.2.1, p_in32 x _ _ 0 (R - 1) rfl (pred_i (by have := Z.1; omega)), bnd_s, if_pos (by rw [okZ_b]; trivial)]
theorem p_isEnding (Z : NK h R E rt en) (x : Int32) : f_X7_isEnding 41 x h = some (b01 (inI x 0 (E - 1)), h) := by
  unfold f_X7_isEnding
  rw [Z.2.2.2.1, p_in32 x _ _ 0 (E - 1) rfl (pred_i (by have := Z.2.1; omega)), bnd_s, if_pos (by rw [okZ_b]; trivial)]
theorem p_isChange (K : MK h r C ln S T) (x : Int32) : f_X7_isChange 41 x h = some (b01 (inI x 0 (C - 1)), h) := by
  unfold f_X7_isChange
  rw [K.2.2.1, p_in32 x _ _ 0 (C - 1) rfl (pred_i (by have := K.2.1; omega)), bnd_s, if_pos (by rw [okZ_b]; trivial)]
/-! active changes -/
def ac1 (C : Nat) (ln T : Nat → Nat) (S : Nat → Nat → Int32) (w : Nat) : Nat → Int32
  | 0 => 0
  | p + 1 => ac1 C ln T S w p ||| (if wlk ln S T 15 (p + 1) w = wlk ln S T 15 p w then (0 : Int32) else (1 : Int32) <<< (nI (ln p) &&& 31))
def acA (C E : Nat) (ln rt en T : Nat → Nat) (S : Nat → Nat → Int32) : Nat → Int32
  | 0 => 0
  | k + 1 => acA C E ln rt en T S k ||| ac1 C ln T S (jn (rt (k / E)) (en (k % E))) C
theorem wlk15 {p : Nat} (hl : ln p < 4) (w : Nat) : wlk ln S T 15 (p + 1) w = cgW S T (ln p) (wlk ln S T 15 p w) := by
  rw [wlk_s, if_pos (bit15 _ hl)]
theorem p_activeOverL (K : WK h a C ln S T) (x : Int32) {w : Nat} (hw : w < 1000000) : ∀ (d n p : Nat), d < n → p + d = C → f_X4_activeOver_7 a x n (ac1 C ln T S w p) (nI (wlk ln S T 15 p w)) (nI p) h = some (ac1 C ln T S w C, h) := by
  obtain ⟨-, -, r2, -, -, -, l2, -⟩ := isW_r K.1
  have hC := K.2.1
  intro d
  induction d with
  | zero =>
    intro n p hn hp
    obtain ⟨n, rfl⟩ : ∃ m, n = m + 1 := ⟨n - 1, by omega⟩
    rw [s_X4_activeOver_7]
    unfold g_X4_activeOver_7
    rw [K.2.2.1, if_pos (by rw [nI_leI (by omega) (by omega)]; omega), show p = C by omega]
  | succ d ih =>
    intro n p hn hp
    obtain ⟨n, rfl⟩ : ∃ m, n = m + 1 := ⟨n - 1, by omega⟩
    have hlp := K.2.2.2.1 p (by omega)
    have hlt := wlk_lt (S := S) (set := 15) K.T10 p w (by omega) hw
    have hlt2 := wlk_lt (S := S) (set := 15) K.T10 (p + 1) w (by omega) hw
    have i2 := ih n (p + 1) (by omega) (by omega)
    rw [ac1] at i2
    have e1 : chg (S (ln p) 0) (S (ln p) 2) (S (ln p) 3) (T (ln p)) (wlk ln S T 15 p w) = wlk ln S T 15 (p + 1) w := (wlk15 (by omega) w).symm
    rw [s_X4_activeOver_7]
    unfold g_X4_activeOver_7 g_X4_activeOver_48
    rw [K.2.2.1, if_neg (by rw [nI_leI (by omega) (by omega)]; omega), r2, l2, if_pos (okI_n (by omega) (by decide)), nI_clamp (by omega), hlp.1, p_goOver K hlp.2 hlt, bnd_s, e1]
    by_cases q : wlk ln S T 15 (p + 1) w = wlk ln S T 15 p w
    · rw [if_pos q, Int32.or_zero] at i2
      rw [if_pos (by rw [q]), ← i2, L1, nI_add]
    · rw [if_neg q] at i2
      rw [if_neg (by rw [nI_eq (by omega) (by omega)]; exact q), if_pos (okI_n (by omega) (by decide)), hlp.1, ← i2, L1, nI_add]
theorem p_activeOver (K : WK h a C ln S T) {w : Nat} (hw : w < 1000000) : f_X4_activeOver a (nI w) h = some (ac1 C ln T S w C, h) := by
  have hC := K.2.1
  unfold f_X4_activeOver
  exact p_activeOverL K _ hw C FU 0 (by unfold FU; omega) (by omega)
theorem p_actE (K : WK h a C ln S T) (Z : SK h R E rt en) {i : Nat} (hi : i < R) (k4 : Int32 → Int32 → Hp → Option (Int32 × Hp)) : ∀ (d n e : Nat), d < n → e + d = E →
    f_X4_activeChanges_17 a k4 n (acA C E ln rt en T S (i * E + e)) (nI i) (nI e) h = k4 (acA C E ln rt en T S ((i + 1) * E)) (nI (i + 1)) h := by
  have hR := Z.1
  have hE := Z.2.1
  intro d
  induction d with
  | zero =>
    intro n e hn hd
    obtain ⟨n, rfl⟩ : ∃ m, n = m + 1 := ⟨n - 1, by omega⟩
    rw [s_X4_activeChanges_17]
    unfold g_X4_activeChanges_17
    rw [(isW_r K.1).1, Z.2.2.2.1, if_pos (by rw [nI_leI (by omega) (by omega)]; omega), L1, nI_add, Nat.succ_mul, show e = E by omega]
  | succ d ih =>
    intro n e hn hd
    obtain ⟨n, rfl⟩ : ∃ m, n = m + 1 := ⟨n - 1, by omega⟩
    have hkd := kdiv (i := i) (show e < E by omega)
    rw [s_X4_activeChanges_17]
    unfold g_X4_activeChanges_17
    rw [(isW_r K.1).1, Z.2.2.2.1, if_neg (by rw [nI_leI (by omega) (by omega)]; omega), p_joined Z hi (by omega), bnd_s, p_activeOver K (Z.lt hi (by omega)), bnd_s, ← ih n (e + 1) (by omega) (by omega), ← Nat.add_assoc, acA, hkd.1, hkd.2, L1, nI_add]
theorem p_actR (K : WK h a C ln S T) (Z : SK h R E rt en) : ∀ (d n i : Nat), d < n → i + d = R →
    f_X4_activeChanges_4 a n (acA C E ln rt en T S (i * E)) (nI i) h = some (acA C E ln rt en T S (R * E), h) := by
  have hR := Z.1
  have hE := Z.2.1
  intro d
  induction d with
  | zero =>
    intro n i hn hd
    obtain ⟨n, rfl⟩ : ∃ m, n = m + 1 := ⟨n - 1, by omega⟩
    rw [s_X4_activeChanges_4]
    unfold g_X4_activeChanges_4
    rw [(isW_r K.1).1, Z.2.2.1, if_pos (by rw [nI_leI (by omega) (by omega)]; omega), show i = R by omega]
  | succ d ih =>
    intro n i hn hd
    obtain ⟨n, rfl⟩ : ∃ m, n = m + 1 := ⟨n - 1, by omega⟩
    have i2 := p_actE K Z (i := i) (by omega) (f_X4_activeChanges_4 a n) E FU 0 (by unfold FU; omega) (by omega)
    rw [Nat.add_zero] at i2
    rw [s_X4_activeChanges_4]
    unfold g_X4_activeChanges_4
    rw [(isW_r K.1).1, Z.2.2.1, if_neg (by rw [nI_leI (by omega) (by omega)]; omega), L0, i2]
    exact ih n (i + 1) (by omega) (by omega)
theorem p_act (K : WK h a C ln S T) (Z : SK h R E rt en) : f_X4_activeChanges a h = some (acA C E ln rt en T S (R * E), h) := by
  have hR := Z.1
  have i2 := p_actR K Z R FU 0 (by unfold FU; omega) (by omega)
  rw [Nat.zero_mul] at i2
  exact i2
theorem q_actP (K : MK h r C ln S T) (k4 : Int32 → Int32 → Hp → Option (Int32 × Hp)) {w : Nat} (hw : w < 1000000) (x : Int32) (k : Nat) : ∀ (d n p : Nat), d < n → p + d = C → f_X7_active_38 41 r k4 n (x ||| ac1 C ln T S w p) (nI k) (nI (wlk ln S T 15 p w)) (nI p) h = k4 (x ||| ac1 C ln T S w C) (nI (k + 1)) h := by
  have l2 := isR_l K.1
  have hC := K.2.1
  intro d
  induction d with
  | zero =>
    intro n p hn hp
    obtain ⟨n, rfl⟩ : ∃ m, n = m + 1 := ⟨n - 1, by omega⟩
    rw [s_X7_active_38]
    unfold g_X7_active_38
    rw [K.2.2.1, if_pos (by rw [nI_leI (by omega) (by omega)]; omega), show p = C by omega, L1, nI_add]
  | succ d ih =>
    intro n p hn hp
    obtain ⟨n, rfl⟩ : ∃ m, n = m + 1 := ⟨n - 1, by omega⟩
    have hlp := K.2.2.2.1 p (by omega)
    have hlt := wlk_lt (S := S) (set := 15) K.T10 p w (by omega) hw
    have hlt2 := wlk_lt (S := S) (set := 15) K.T10 (p + 1) w (by omega) hw
    have i2 := ih n (p + 1) (by omega) (by omega)
    rw [ac1, ← Int32.or_assoc] at i2
    have e1 : chg (S (ln p) 0) (S (ln p) 2) (S (ln p) 3) (T (ln p)) (wlk ln S T 15 p w) = wlk ln S T 15 (p + 1) w := (wlk15 (by omega) w).symm
    rw [s_X7_active_38]
    unfold g_X7_active_38 g_X7_active_77
    rw [K.2.2.1, if_neg (by rw [nI_leI (by omega) (by omega)]; omega), l2, if_pos (okI_n (by omega) (by decide)), nI_clamp (by omega), hlp.1, p_changed K hlp.2 hlt, bnd_s, e1]
    by_cases q : wlk ln S T 15 (p + 1) w = wlk ln S T 15 p w
    · rw [if_pos q] at i2
      rw [if_pos (by rw [q]), ← i2, L1, nI_add]
    · rw [if_neg q] at i2
      rw [if_neg (by rw [nI_eq (by omega) (by omega)]; exact q), if_pos (okI_n (by omega) (by decide)), hlp.1, ← i2, L1, nI_add]
theorem q_actL (K : MK h r C ln S T) (Z : NK h R E rt en) : ∀ (d n k : Nat), d < n → k + d = R * E → f_X7_active_4 41 r n (acA C E ln rt en T S k) (nI k) h = some (acA C E ln rt en T S (R * E), h) := by
  have hR := Z.1
  have hE := Z.2.1
  have hC := K.2.1
  have h12 := RE12 hR hE
  intro d
  induction d with
  | zero =>
    intro n k hn hd
    obtain ⟨n, rfl⟩ : ∃ m, n = m + 1 := ⟨n - 1, by omega⟩
    rw [s_X7_active_4]
    unfold g_X7_active_4
    rw [Z.2.2.1, Z.2.2.2.1, pk_mul, if_pos (by rw [nI_leI (by omega) (by omega)]; omega), show k = R * E by omega]
  | succ d ih =>
    intro n k hn hd
    obtain ⟨n, rfl⟩ : ∃ m, n = m + 1 := ⟨n - 1, by omega⟩
    have hk := kin (show k < R * E by omega)
    have i2 := q_actP K (f_X7_active_4 41 r n) (Z.lt hk.1 hk.2) (acA C E ln rt en T S k) k C FU 0 (by unfold FU; omega) (by omega)
    rw [ac1, Int32.or_zero] at i2
    rw [s_X7_active_4]
    unfold g_X7_active_4
    rw [Z.2.2.1, Z.2.2.2.1, pk_mul, if_neg (by rw [nI_leI (by omega) (by omega)]; omega)]
    rw [if_neg (by rw [L0, nI_eq (by omega) (by omega)]; omega), if_neg (by rw [L0, nI_eq (by omega) (by omega)]; omega)]
    rw [pk_rem (by omega) (by omega) (by omega), pk_div (by omega) (by omega) (by omega), p_raw Z hk.1 hk.2, bnd_s]
    refine Eq.trans ?_ (ih n (k + 1) (by omega) (by omega))
    exact i2
theorem q_act (K : MK h r C ln S T) (Z : NK h R E rt en) : f_X7_active 41 r h = some (acA C E ln rt en T S (R * E), h) := by
  have h12 := RE12 Z.1 Z.2.1
  unfold f_X7_active
  exact q_actL K Z (R * E) FU 0 (by unfold FU; omega) (by omega)
/-! crossing -/
def crB (E : Nat) (rt en T : Nat → Nat) (S : Nat → Nat → Int32) (c1 c2 k : Nat) : Bool := decide (cgW S T c2 (cgW S T c1 (jn (rt (k / E)) (en (k % E)))) ≠ cgW S T c1 (cgW S T c2 (jn (rt (k / E)) (en (k % E)))))
def crA (E : Nat) (rt en T : Nat → Nat) (S : Nat → Nat → Int32) (c1 c2 : Nat) : Nat → Bool
  | 0 => false
  | k + 1 => crA E rt en T S c1 c2 k || crB E rt en T S c1 c2 k
theorem crA_mono {c1 c2 : Nat} : ∀ {m e : Nat}, e ≤ m → crA E rt en T S c1 c2 e = true → crA E rt en T S c1 c2 m = true
  | 0, e, h, q => by rw [show e = 0 by omega] at q; exact q
  | m + 1, e, h, q => by
    by_cases z : e = m + 1
    · rw [z] at q; exact q
    · unfold crA
      rw [crA_mono (m := m) (e := e) (by omega) q]; rfl
theorem p_croE (K : WK h a C ln S T) (Z : SK h R E rt en) {c1 c2 : Nat} (h1 : c1 < C) (h2 : c2 < C) {i : Nat} (hi : i < R) (k2 : Int32 → Hp → Option (Int32 × Hp)) (hk2 : crA E rt en T S c1 c2 ((i + 1) * E) = false → k2 (nI (i + 1)) h = some (b01 (crA E rt en T S c1 c2 (R * E)), h)) : ∀ (d n e : Nat), d < n → e + d = E → crA E rt en T S c1 c2 (i * E + e) = false →
    f_X4_doCross_16 a (nI c1) (nI c2) k2 n (nI i) (nI e) h = some (b01 (crA E rt en T S c1 c2 (R * E)), h) := by
  have hR := Z.1
  have hE := Z.2.1
  have hT1 := (K.2.2.2.2.2 c1 h1).2
  have hT2 := (K.2.2.2.2.2 c2 h2).2
  intro d
  induction d with
  | zero =>
    intro n e hn hd hq
    obtain ⟨n, rfl⟩ : ∃ m, n = m + 1 := ⟨n - 1, by omega⟩
    rw [s_X4_doCross_16]
    unfold g_X4_doCross_16
    rw [(isW_r K.1).1, Z.2.2.2.1, if_pos (by rw [nI_leI (by omega) (by omega)]; omega), L1, nI_add]
    exact hk2 (by rw [Nat.succ_mul]; rw [show e = E by omega] at hq; exact hq)
  | succ d ih =>
    intro n e hn hd hq
    obtain ⟨n, rfl⟩ : ∃ m, n = m + 1 := ⟨n - 1, by omega⟩
    have hkd := kdiv (i := i) (show e < E by omega)
    have hw := Z.lt hi (show e < E by omega)
    rw [s_X4_doCross_16]
    unfold g_X4_doCross_16
    rw [(isW_r K.1).1, Z.2.2.2.1, if_neg (by rw [nI_leI (by omega) (by omega)]; omega), p_joined Z hi (by omega), bnd_s, p_goOver K h1 hw, bnd_s, p_goOver K h2 (chg_lt hT1), bnd_s, p_goOver K h2 hw, bnd_s, p_goOver K h1 (chg_lt hT2), bnd_s]
    have l1 : cgW S T c2 (cgW S T c1 (jn (rt i) (en e))) < 1000000 := chg_lt hT2
    have l2 : cgW S T c1 (cgW S T c2 (jn (rt i) (en e))) < 1000000 := chg_lt hT1
    have eB : crB E rt en T S c1 c2 (i * E + e) = decide (cgW S T c2 (cgW S T c1 (jn (rt i) (en e))) ≠ cgW S T c1 (cgW S T c2 (jn (rt i) (en e)))) := by unfold crB; rw [hkd.1, hkd.2]
    by_cases q : cgW S T c2 (cgW S T c1 (jn (rt i) (en e))) = cgW S T c1 (cgW S T c2 (jn (rt i) (en e)))
    · have q' : nI (chg (S c2 0) (S c2 2) (S c2 3) (T c2) (chg (S c1 0) (S c1 2) (S c1 3) (T c1) (jn (rt i) (en e)))) = nI (chg (S c1 0) (S c1 2) (S c1 3) (T c1) (chg (S c2 0) (S c2 2) (S c2 3) (T c2) (jn (rt i) (en e)))) := congrArg nI q
      rw [if_pos q', L1, nI_add]
      exact ih n (e + 1) (by omega) (by omega) (by rw [← Nat.add_assoc, crA, hq, eB]; simpa using q)
    · have q' : ¬ nI (chg (S c2 0) (S c2 2) (S c2 3) (T c2) (chg (S c1 0) (S c1 2) (S c1 3) (T c1) (jn (rt i) (en e)))) = nI (chg (S c1 0) (S c1 2) (S c1 3) (T c1) (chg (S c2 0) (S c2 2) (S c2 3) (T c2) (jn (rt i) (en e)))) := fun z => q ((nI_eq (show cgW S T c2 (cgW S T c1 (jn (rt i) (en e))) < 2 ^ 31 by omega) (show cgW S T c1 (cgW S T c2 (jn (rt i) (en e))) < 2 ^ 31 by omega)).mp z)
      rw [if_neg q', crA_mono (e := i * E + e + 1) (by have := klt hi (show e < E by omega); omega) (by rw [crA, eB]; simp [q])]
      rfl
theorem p_croR (K : WK h a C ln S T) (Z : SK h R E rt en) {c1 c2 : Nat} (h1 : c1 < C) (h2 : c2 < C) : ∀ (d n i : Nat), d < n → i + d = R → crA E rt en T S c1 c2 (i * E) = false →
    f_X4_doCross_2 a (nI c1) (nI c2) n (nI i) h = some (b01 (crA E rt en T S c1 c2 (R * E)), h) := by
  have hR := Z.1
  have hE := Z.2.1
  intro d
  induction d with
  | zero =>
    intro n i hn hd hq
    obtain ⟨n, rfl⟩ : ∃ m, n = m + 1 := ⟨n - 1, by omega⟩
    rw [s_X4_doCross_2]
    unfold g_X4_doCross_2
    rw [(isW_r K.1).1, Z.2.2.1, if_pos (by rw [nI_leI (by omega) (by omega)]; omega), show R = i by omega, hq]
    rfl
  | succ d ih =>
    intro n i hn hd hq
    obtain ⟨n, rfl⟩ : ∃ m, n = m + 1 := ⟨n - 1, by omega⟩
    rw [s_X4_doCross_2]
    unfold g_X4_doCross_2
    rw [(isW_r K.1).1, Z.2.2.1, if_neg (by rw [nI_leI (by omega) (by omega)]; omega), L0]
    exact p_croE K Z h1 h2 (i := i) (by omega) _ (fun z => ih n (i + 1) (by omega) (by omega) z) E FU 0 (by unfold FU; omega) (by omega) hq
theorem p_cro (K : WK h a C ln S T) (Z : SK h R E rt en) {c1 c2 : Nat} (h1 : c1 < C) (h2 : c2 < C) : f_X4_doCross a (nI c1) (nI c2) h = some (b01 (crA E rt en T S c1 c2 (R * E)), h) := by
  have hR := Z.1
  unfold f_X4_doCross
  exact p_croR K Z h1 h2 R FU 0 (by unfold FU; omega) (by omega) (by rw [Nat.zero_mul]; rfl)
theorem q_croL (K : MK h r C ln S T) (Z : NK h R E rt en) {c1 c2 : Nat} (h1 : c1 < C) (h2 : c2 < C) : ∀ (d n k : Nat), d < n → k + d = R * E → f_X7_areCrossing_6 41 r (nI c1) (nI c2) n (b01 (crA E rt en T S c1 c2 k)) (nI k) h = some (b01 (crA E rt en T S c1 c2 (R * E)), h) := by
  have hR := Z.1
  have hE := Z.2.1
  have h12 := RE12 hR hE
  have hT1 := (K.2.2.2.2.2 c1 h1).2
  have hT2 := (K.2.2.2.2.2 c2 h2).2
  intro d
  induction d with
  | zero =>
    intro n k hn hd
    obtain ⟨n, rfl⟩ : ∃ m, n = m + 1 := ⟨n - 1, by omega⟩
    rw [s_X7_areCrossing_6]
    unfold g_X7_areCrossing_6
    rw [Z.2.2.1, Z.2.2.2.1, pk_mul, if_pos (by rw [nI_leI (by omega) (by omega)]; omega), show k = R * E by omega, if_pos (by rw [okZ_b]; trivial)]
  | succ d ih =>
    intro n k hn hd
    obtain ⟨n, rfl⟩ : ∃ m, n = m + 1 := ⟨n - 1, by omega⟩
    have hk := kin (show k < R * E by omega)
    have hw := Z.lt hk.1 hk.2
    have i2 := ih n (k + 1) (by omega) (by omega)
    rw [s_X7_areCrossing_6]
    unfold g_X7_areCrossing_6 g_X7_areCrossing_80 g_X7_areCrossing_85
    rw [Z.2.2.1, Z.2.2.2.1, pk_mul, if_neg (by rw [nI_leI (by omega) (by omega)]; omega)]
    rw [if_neg (by rw [L0, nI_eq (by omega) (by omega)]; omega), if_neg (by rw [L0, nI_eq (by omega) (by omega)]; omega)]
    rw [pk_rem (by omega) (by omega) (by omega), pk_div (by omega) (by omega) (by omega), p_raw Z hk.1 hk.2, bnd_s, p_changed K h1 hw, bnd_s, p_changed K h2 (chg_lt hT1), bnd_s, p_changed K h2 hw, bnd_s, p_changed K h1 (chg_lt hT2), bnd_s, ifb]
    have l1 : cgW S T c2 (cgW S T c1 (jn (rt (k / E)) (en (k % E)))) < 1000000 := chg_lt hT2
    have l2 : cgW S T c1 (cgW S T c2 (jn (rt (k / E)) (en (k % E)))) < 1000000 := chg_lt hT1
    rw [crA] at i2
    by_cases q0 : crA E rt en T S c1 c2 k = true
    · rw [if_pos q0]
      rw [q0] at i2
      rw [← i2, L1, nI_add]
      rfl
    · rw [if_neg q0]
      simp only [Bool.not_eq_true] at q0
      rw [q0] at i2
      unfold crB at i2
      by_cases q : cgW S T c2 (cgW S T c1 (jn (rt (k / E)) (en (k % E)))) = cgW S T c1 (cgW S T c2 (jn (rt (k / E)) (en (k % E))))
      · have q' : nI (chg (S c2 0) (S c2 2) (S c2 3) (T c2) (chg (S c1 0) (S c1 2) (S c1 3) (T c1) (jn (rt (k / E)) (en (k % E))))) = nI (chg (S c1 0) (S c1 2) (S c1 3) (T c1) (chg (S c2 0) (S c2 2) (S c2 3) (T c2) (jn (rt (k / E)) (en (k % E))))) := congrArg nI q
        rw [if_pos q', ← i2, L1, nI_add, q]
        simp [b01]
      · have q' : ¬ nI (chg (S c2 0) (S c2 2) (S c2 3) (T c2) (chg (S c1 0) (S c1 2) (S c1 3) (T c1) (jn (rt (k / E)) (en (k % E))))) = nI (chg (S c1 0) (S c1 2) (S c1 3) (T c1) (chg (S c2 0) (S c2 2) (S c2 3) (T c2) (jn (rt (k / E)) (en (k % E))))) := fun z => q ((nI_eq (show cgW S T c2 (cgW S T c1 (jn (rt (k / E)) (en (k % E)))) < 2 ^ 31 by omega) (show cgW S T c1 (cgW S T c2 (jn (rt (k / E)) (en (k % E)))) < 2 ^ 31 by omega)).mp z)
        rw [if_neg q', ← i2, L1, nI_add]
        simp [b01, q]
        rfl
theorem q_cro (K : MK h r C ln S T) (Z : NK h R E rt en) {c1 c2 : Nat} (h1 : c1 < C) (h2 : c2 < C) : f_X7_areCrossing 41 r (nI c1) (nI c2) h = some (b01 (crA E rt en T S c1 c2 (R * E)), h) := by
  have h12 := RE12 Z.1 Z.2.1
  unfold f_X7_areCrossing
  exact q_croL K Z h1 h2 (R * E) FU 0 (by unfold FU; omega) (by omega)
/-! how many forms -/
def fcN (fm : Nat → Int32) : Nat → Nat
  | 0 => 0
  | k + 1 => fcN fm k + (if fm k = -9 then 0 else 1)
theorem p_fcL (ha : isW a) (hf : ∀ j, j < 12 → h.1 (a + 3) j = fm j) : ∀ (d n k : Nat), d < n → k + d = 12 → f_X4_formCount_4 a n (nI (fcN fm k)) (nI k) h = some (nI (fcN fm 12), h) := by
  obtain ⟨-, -, -, r3, -, -, -, l3, -⟩ := isW_r ha
  intro d
  induction d with
  | zero =>
    intro n k hn hd
    obtain ⟨n, rfl⟩ : ∃ m, n = m + 1 := ⟨n - 1, by omega⟩
    rw [s_X4_formCount_4]
    unfold g_X4_formCount_4
    rw [L12, if_pos (by rw [nI_leI (by omega) (by omega)]; omega), show k = 12 by omega]
  | succ d ih =>
    intro n k hn hd
    obtain ⟨n, rfl⟩ : ∃ m, n = m + 1 := ⟨n - 1, by omega⟩
    have i2 := ih n (k + 1) (by omega) (by omega)
    rw [fcN] at i2
    rw [s_X4_formCount_4]
    unfold g_X4_formCount_4 g_X4_formCount_24
    rw [L12, if_neg (by rw [nI_leI (by omega) (by omega)]; omega), r3, l3, if_pos (okI_n (by omega) (by decide)), nI_clamp (by omega), hf k (by omega)]
    by_cases q : fm k = -9
    · rw [if_pos q] at i2 ⊢
      rw [← i2, L1, nI_add]
      rfl
    · rw [if_neg q] at i2 ⊢
      rw [← i2, L1, nI_add, nI_add]
theorem p_fc (ha : isW a) (hf : ∀ j, j < 12 → h.1 (a + 3) j = fm j) : f_X4_formCount a h = some (nI (fcN fm 12), h) := by
  unfold f_X4_formCount
  exact p_fcL ha hf 12 FU 0 (by decide) rfl
theorem q_fcL (hf : ∀ j, j < 12 → h.1 43 (20 + j) = fm j) : ∀ (d n k : Nat), d < n → k + d = 12 → f_X7_manyForms_5 41 n (nI (fcN fm k)) (nI (20 + k)) h = some (nI (fcN fm 12), h) := by
  intro d
  induction d with
  | zero =>
    intro n k hn hd
    obtain ⟨n, rfl⟩ : ∃ m, n = m + 1 := ⟨n - 1, by omega⟩
    rw [s_X7_manyForms_5]
    unfold g_X7_manyForms_5
    rw [L32, if_pos (by rw [nI_leI (by omega) (by omega)]; omega), show k = 12 by omega]
  | succ d ih =>
    intro n k hn hd
    obtain ⟨n, rfl⟩ : ∃ m, n = m + 1 := ⟨n - 1, by omega⟩
    have i2 := ih n (k + 1) (by omega) (by omega)
    rw [fcN] at i2
    rw [s_X7_manyForms_5]
    unfold g_X7_manyForms_5 g_X7_manyForms_28
    rw [L32, if_neg (by rw [nI_leI (by omega) (by omega)]; omega), show rF 41 2 = 43 from rfl, show lN_ 43 = 32 from rfl, if_pos (okI_n (by omega) (by decide)), nI_clamp (by omega), hf k (by omega)]
    by_cases q : fm k = -9
    · rw [if_pos q] at i2 ⊢
      rw [← i2, L1, L0, nI_add, nI_add]
      rfl
    · rw [if_neg q] at i2 ⊢
      rw [← i2, L1, nI_add, nI_add]
      rfl
theorem q_fc (hf : ∀ j, j < 12 → h.1 43 (20 + j) = fm j) : f_X7_manyForms 41 h = some (nI (fcN fm 12), h) := by
  unfold f_X7_manyForms
  exact q_fcL hf 12 FU 0 (by decide) rfl
end MORE
