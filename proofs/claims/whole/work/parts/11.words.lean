/-! joins -/
def jn (w e : Nat) : Nat := if 10 ≤ e then 100 * w + e else 10 * w + e
theorem jn_lt {w e : Nat} (hw : w < 10000) (he : e < 100) : jn w e < 1000000 := by unfold jn; split <;> omega
theorem p_join5 {w e : Nat} (he : e < 100) (h : Hp) : f_X5_join (nI w) (nI e) h = some (nI (jn w e), h) := by
  unfold f_X5_join g_X5_join_13 jn
  rw [L10, L100]
  by_cases q : 10 ≤ e
  · rw [if_pos ((nI_leI (by omega) (by omega)).mpr q), if_pos q, pk_mul, nI_add]
  · rw [if_neg (fun z => q ((nI_leI (by omega) (by omega)).mp z)), if_neg q, pk_mul, nI_add]
def szN : Nat → Nat → Nat
  | 0, _ => 0
  | k + 1, w => if w = 0 then 0 else 1 + szN k (w / 10)
theorem szN_le : ∀ (k w : Nat), szN k w ≤ k
  | 0, _ => Nat.le_refl _
  | k + 1, w => by
    unfold szN
    have := szN_le k (w / 10)
    split <;> omega
theorem p_sizeL (a0 : Int32) (h : Hp) : ∀ (k n c rest : Nat), k < n → rest < 10 ^ k → k ≤ 9 → f_X7_size_4 a0 n (nI c) (nI rest) h = some (nI (c + szN k rest), h) := by
  intro k
  induction k with
  | zero =>
    intro n c rest hn hr hk
    obtain ⟨n, rfl⟩ : ∃ m, n = m + 1 := ⟨n - 1, by omega⟩
    rw [s_X7_size_4]
    unfold g_X7_size_4
    rw [L0, if_pos (by rw [nI_leI (by omega) (by omega)]; omega)]
    rfl
  | succ k ih =>
    intro n c rest hn hr hk
    obtain ⟨n, rfl⟩ : ∃ m, n = m + 1 := ⟨n - 1, by omega⟩
    have hk6 : 10 ^ (k + 1) ≤ 10 ^ 9 := Nat.pow_le_pow_right (by decide) (by omega)
    have hpk : 10 ^ (k + 1) = 10 ^ k * 10 := Nat.pow_succ ..
    rw [s_X7_size_4]
    unfold g_X7_size_4 szN
    by_cases q : rest = 0
    · rw [L0, if_pos (by rw [nI_leI (by omega) (by omega)]; omega), if_pos q]
      rfl
    · rw [L0, if_neg (by rw [nI_leI (by omega) (by omega)]; omega), if_neg q, L1, L10, nI_add, pk_div (by omega) (by decide) (by decide), ih n _ _ (by omega) (by omega) (by omega), Nat.add_assoc]
theorem p_size {w : Nat} (hw : w < 1000000) (h : Hp) : f_X7_size (nI w) h = some (nI (szN 6 w), h) := by
  unfold f_X7_size
  rw [L0, p_sizeL _ h 6 FU 0 w (by decide) (by omega) (by decide), Nat.zero_add]
theorem p_lenL (a0 : Int32) (h : Hp) : ∀ (k n c rest i : Nat), k < n → rest < 10 ^ k → i + k = 6 → f_X5_lengthOf_6 a0 n (nI c) (nI rest) (nI i) h = some (nI (c + szN k rest), h) := by
  intro k
  induction k with
  | zero =>
    intro n c rest i hn hr hk
    obtain ⟨n, rfl⟩ : ∃ m, n = m + 1 := ⟨n - 1, by omega⟩
    rw [s_X5_lengthOf_6]
    unfold g_X5_lengthOf_6
    rw [L6, if_pos (by rw [nI_leI (by omega) (by omega)]; omega)]
    rfl
  | succ k ih =>
    intro n c rest i hn hr hk
    obtain ⟨n, rfl⟩ : ∃ m, n = m + 1 := ⟨n - 1, by omega⟩
    have hk6 : 10 ^ (k + 1) ≤ 10 ^ 6 := Nat.pow_le_pow_right (by decide) (by omega)
    have hpk : 10 ^ (k + 1) = 10 ^ k * 10 := Nat.pow_succ ..
    rw [s_X5_lengthOf_6]
    unfold g_X5_lengthOf_6 szN
    rw [L6, if_neg (by rw [nI_leI (by omega) (by omega)]; omega)]
    by_cases q : rest = 0
    · rw [L0, if_pos (by rw [nI_leI (by omega) (by omega)]; omega), if_pos q]
      rfl
    · rw [L0, if_neg (by rw [nI_leI (by omega) (by omega)]; omega), if_neg q, L1, L10, nI_add, nI_add, pk_div (by omega) (by decide) (by decide), ih n _ _ _ (by omega) (by omega) (by omega), Nat.add_assoc]
theorem p_len {w : Nat} (hw : w < 1000000) (h : Hp) : f_X5_lengthOf (nI w) h = some (nI (szN 6 w), h) := by
  unfold f_X5_lengthOf
  rw [L0, p_lenL _ h 6 FU 0 w 0 (by decide) (by omega) (by decide), Nat.zero_add]
theorem p_powL (b e : Nat) (he : e < 2 ^ 31) (h : Hp) : ∀ (d n i p : Nat), d < n → i + d = e → f_X7_power_4 (nI b) (nI e) n (nI p) (nI i) h = some (nI (p * b ^ d), h) := by
  intro d
  induction d with
  | zero =>
    intro n i p hn hi
    obtain ⟨n, rfl⟩ : ∃ m, n = m + 1 := ⟨n - 1, by omega⟩
    rw [s_X7_power_4]
    unfold g_X7_power_4
    rw [if_pos (by rw [nI_leI (by omega) (by omega)]; omega)]
    simp
  | succ d ih =>
    intro n i p hn hi
    obtain ⟨n, rfl⟩ : ∃ m, n = m + 1 := ⟨n - 1, by omega⟩
    rw [s_X7_power_4]
    unfold g_X7_power_4
    rw [if_neg (by rw [nI_leI (by omega) (by omega)]; omega), L1, pk_mul, nI_add, ih n _ _ (by omega) (by omega), Nat.pow_succ, Nat.mul_assoc, Nat.mul_comm b]
theorem p_pow (b e : Nat) (he : e < 900) (h : Hp) : f_X7_power (nI b) (nI e) h = some (nI (b ^ e), h) := by
  unfold f_X7_power
  rw [L0, L1, p_powL b e (by omega) h e FU 0 1 (by unfold FU; omega) (by omega), Nat.one_mul]
theorem p_powL6 (b e : Nat) (he : e < 2 ^ 31) (h : Hp) : ∀ (d n i p : Nat), d < n → i + d = e → f_X6_power_4 (nI b) (nI e) n (nI p) (nI i) h = some (nI (p * b ^ d), h) := by
  intro d
  induction d with
  | zero =>
    intro n i p hn hi
    obtain ⟨n, rfl⟩ : ∃ m, n = m + 1 := ⟨n - 1, by omega⟩
    rw [s_X6_power_4]
    unfold g_X6_power_4
    rw [if_pos (by rw [nI_leI (by omega) (by omega)]; omega)]
    simp
  | succ d ih =>
    intro n i p hn hi
    obtain ⟨n, rfl⟩ : ∃ m, n = m + 1 := ⟨n - 1, by omega⟩
    rw [s_X6_power_4]
    unfold g_X6_power_4
    rw [if_neg (by rw [nI_leI (by omega) (by omega)]; omega), L1, pk_mul, nI_add, ih n _ _ (by omega) (by omega), Nat.pow_succ, Nat.mul_assoc, Nat.mul_comm b]
theorem p_pow6 (b e : Nat) (he : e < 900) (h : Hp) : f_X6_power (nI b) (nI e) h = some (nI (b ^ e), h) := by
  unfold f_X6_power
  rw [L0, L1, p_powL6 b e (by omega) h e FU 0 1 (by unfold FU; omega) (by omega), Nat.one_mul]
theorem sz_e {e : Nat} (h0 : 0 < e) (he : e < 100) : szN 6 e = if 10 ≤ e then 2 else 1 := by
  by_cases q : 10 ≤ e
  · rw [if_pos q]
    simp only [szN]
    rw [if_neg (by omega), if_neg (by omega), if_pos (by omega)]
  · rw [if_neg q]
    simp only [szN]
    rw [if_neg (by omega), if_pos (by omega)]
theorem p_join7 {w e : Nat} (h0 : 0 < e) (he : e < 100) (h : Hp) : f_X7_join (nI w) (nI e) h = some (nI (jn w e), h) := by
  unfold f_X7_join
  rw [p_size (by omega), bnd_s, L10, p_pow _ _ (by have := szN_le 6 e; omega), bnd_s, pk_mul, nI_add, sz_e h0 he]
  unfold jn
  by_cases q : 10 ≤ e
  · rw [if_pos q, if_pos q, Nat.mul_comm]
  · rw [if_neg q, if_neg q, Nat.mul_comm]
/-! what is made -/
def SK (h : Hp) (R E : Nat) (rt en : Nat → Nat) : Prop := R ≤ 4 ∧ E ≤ 3 ∧ h.1 6 2 = nI R ∧ h.1 6 3 = nI E ∧ (∀ j, j < R → h.1 7 j = nI (rt j) ∧ rt j < 10000) ∧ (∀ j, j < E → h.1 8 j = nI (en j) ∧ 0 < en j ∧ en j < 100)
def NK (h : Hp) (R E : Nat) (rt en : Nat → Nat) : Prop := R ≤ 4 ∧ E ≤ 3 ∧ h.1 41 11 = nI R ∧ h.1 41 12 = nI E ∧ (∀ j, j < R → h.1 48 j = nI (rt j) ∧ rt j < 10000) ∧ (∀ j, j < E → h.1 49 j = nI (en j) ∧ 0 < en j ∧ en j < 100)
section MADE
variable {h : Hp} {a r C R E : Nat} {ln rt en T : Nat → Nat} {S : Nat → Nat → Int32} {fm : Nat → Int32}
theorem p_joined (K : SK h R E rt en) {i e : Nat} (hi : i < R) (he : e < E) : f_X2_joined 6 (nI i) (nI e) h = some (nI (jn (rt i) (en e)), h) := by
  obtain ⟨hR, hE, -, -, k1, k2⟩ := K
  unfold f_X2_joined
  rw [show rF 6 0 = 7 from rfl, show rF 6 1 = 8 from rfl, show lN_ 7 = 4 from rfl, show lN_ 8 = 3 from rfl, if_pos (okI_n (by omega) (by decide)), if_pos (okI_n (by omega) (by decide)), nI_clamp (by omega), nI_clamp (by omega), (k1 i hi).1, (k2 e he).1, p_join5 (k2 e he).2.2, bnd_s]
theorem p_raw (K : NK h R E rt en) {i e : Nat} (hi : i < R) (he : e < E) : f_X7_raw 41 (nI i) (nI e) h = some (nI (jn (rt i) (en e)), h) := by
  obtain ⟨hR, hE, -, -, k1, k2⟩ := K
  unfold f_X7_raw
  rw [show rF 41 9 = 48 from rfl, show rF 41 10 = 49 from rfl, show lN_ 48 = 4 from rfl, show lN_ 49 = 3 from rfl, if_pos (okI_n (by omega) (by decide)), if_pos (okI_n (by omega) (by decide)), nI_clamp (by omega), nI_clamp (by omega), (k1 i hi).1, (k2 e he).1, p_join7 (k2 e he).2.1 (k2 e he).2.2, bnd_s]
theorem SK.lt (K : SK h R E rt en) {i e : Nat} (hi : i < R) (he : e < E) : jn (rt i) (en e) < 1000000 := jn_lt (K.2.2.2.2.1 i hi).2 (K.2.2.2.2.2 e he).2.2
theorem NK.lt (K : NK h R E rt en) {i e : Nat} (hi : i < R) (he : e < E) : jn (rt i) (en e) < 1000000 := jn_lt (K.2.2.2.2.1 i hi).2 (K.2.2.2.2.2 e he).2.2
theorem WK.T10 (K : WK h a C ln S T) : ∀ j, j < C → T (ln j) < 10 := fun j hj => (K.2.2.2.2.2 _ (K.2.2.2.1 j hj).2).2
theorem MK.T10 (K : MK h r C ln S T) : ∀ j, j < C → T (ln j) < 10 := fun j hj => (K.2.2.2.2.2 _ (K.2.2.2.1 j hj).2).2
theorem p_makeOf (K : WK h a C ln S T) (Z : SK h R E rt en) {i e : Nat} (hi : i < R) (he : e < E) : f_X4_makeOf a (nI i) (nI e) h = some (nI (wlk ln S T 15 C (jn (rt i) (en e))), h) := by
  unfold f_X4_makeOf
  rw [(isW_r K.1).1, p_joined Z hi he, bnd_s, K.2.2.1, p_walk K (Z.lt hi he) (Nat.le_refl _), bnd_s]
theorem p_madeBy (K : MK h r C ln S T) (Z : NK h R E rt en) {i e set : Nat} (hi : i < R) (he : e < E) (hs : set < 16) : f_X7_madeBy 41 r (nI i) (nI e) (nI set) h = some (nI (wlk ln S T set C (jn (rt i) (en e))), h) := by
  unfold f_X7_madeBy
  rw [p_raw Z hi he, bnd_s, K.2.2.1, p_behind K (Z.lt hi he) hs (Nat.le_refl _), bnd_s]
/-! exceptions -/
def exI (fm : Nat → Int32) (mk : Nat → Nat → Nat) (i e : Nat) : Nat := if fm (3 * i + e) = -9 then 0 else if fm (3 * i + e) = nI (mk i e) then 0 else 1
def exE (fm : Nat → Int32) (mk : Nat → Nat → Nat) (i : Nat) : Nat → Nat
  | 0 => 0
  | e + 1 => exE fm mk i e + exI fm mk i e
def exR (fm : Nat → Int32) (mk : Nat → Nat → Nat) (E : Nat) : Nat → Nat
  | 0 => 0
  | i + 1 => exR fm mk E i + exE fm mk i E
abbrev mkW (C : Nat) (ln rt en T : Nat → Nat) (S : Nat → Nat → Int32) : Nat → Nat → Nat := fun i e => wlk ln S T 15 C (jn (rt i) (en e))
theorem p_formOf (ha : isW a) (hf : ∀ j, j < 12 → h.1 (a + 3) j = fm j) {i e : Nat} (hi : i < 4) (he : e < 3) : f_X4_formOf a (nI i) (nI e) h = some (fm (3 * i + e), h) := by
  obtain ⟨-, -, -, r3, -, -, -, l3, -⟩ := isW_r ha
  unfold f_X4_formOf
  rw [r3, l3, L3, pk_mul, nI_add, if_pos (okI_n (by omega) (by decide)), nI_clamp (by omega), hf _ (by omega), Nat.mul_comm]
theorem p_excE (K : WK h a C ln S T) (Z : SK h R E rt en) (hf : ∀ j, j < 12 → h.1 (a + 3) j = fm j) {i : Nat} (hi : i < R) (k4 : Int32 → Int32 → Hp → Option (Int32 × Hp)) (x : Nat) : ∀ (d n e : Nat), d < n → e + d = E →
    f_X4_exceptions_17 a k4 n (nI (x + exE fm (mkW C ln rt en T S) i e)) (nI i) (nI e) h = k4 (nI (x + exE fm (mkW C ln rt en T S) i E)) (nI (i + 1)) h := by
  have hR := Z.1
  have hE := Z.2.1
  intro d
  induction d with
  | zero =>
    intro n e hn hd
    obtain ⟨n, rfl⟩ : ∃ m, n = m + 1 := ⟨n - 1, by omega⟩
    rw [s_X4_exceptions_17]
    unfold g_X4_exceptions_17
    rw [(isW_r K.1).1, Z.2.2.2.1, if_pos (by rw [nI_leI (by omega) (by omega)]; omega), L1, nI_add, show e = E by omega]
  | succ d ih =>
    intro n e hn hd
    obtain ⟨n, rfl⟩ : ∃ m, n = m + 1 := ⟨n - 1, by omega⟩
    have i2 := ih n (e + 1) (by omega) (by omega)
    rw [exE, ← Nat.add_assoc, ← nI_add (x + _)] at i2
    rw [s_X4_exceptions_17]
    unfold g_X4_exceptions_17 g_X4_exceptions_57
    rw [(isW_r K.1).1, Z.2.2.2.1, if_neg (by rw [nI_leI (by omega) (by omega)]; omega), p_formOf K.1 hf (by omega) (by omega), bnd_s]
    unfold exI at i2
    by_cases q : fm (3 * i + e) = -9
    · rw [if_pos q, L1, nI_add, ← i2, if_pos q]
      rw [← L0, Int32.add_zero]
    · rw [if_neg q] at i2 ⊢
      rw [p_makeOf K Z hi (by omega), bnd_s]
      by_cases q2 : fm (3 * i + e) = nI (wlk ln S T 15 C (jn (rt i) (en e)))
      · rw [if_pos q2] at i2 ⊢
        rw [L1, nI_add, ← i2, ← L0, Int32.add_zero]
      · rw [if_neg q2] at i2 ⊢
        rw [← i2, L1, nI_add, nI_add]
theorem p_excR (K : WK h a C ln S T) (Z : SK h R E rt en) (hf : ∀ j, j < 12 → h.1 (a + 3) j = fm j) : ∀ (d n i : Nat), d < n → i + d = R →
    f_X4_exceptions_4 a n (nI (exR fm (mkW C ln rt en T S) E i)) (nI i) h = some (nI (exR fm (mkW C ln rt en T S) E R), h) := by
  have hR := Z.1
  have hE := Z.2.1
  intro d
  induction d with
  | zero =>
    intro n i hn hd
    obtain ⟨n, rfl⟩ : ∃ m, n = m + 1 := ⟨n - 1, by omega⟩
    rw [s_X4_exceptions_4]
    unfold g_X4_exceptions_4
    rw [(isW_r K.1).1, Z.2.2.1, if_pos (by rw [nI_leI (by omega) (by omega)]; omega), show i = R by omega]
  | succ d ih =>
    intro n i hn hd
    obtain ⟨n, rfl⟩ : ∃ m, n = m + 1 := ⟨n - 1, by omega⟩
    rw [s_X4_exceptions_4]
    unfold g_X4_exceptions_4
    have i2 := p_excE K Z hf (i := i) (by omega) (f_X4_exceptions_4 a n) (exR fm (mkW C ln rt en T S) E i) E FU 0 (by unfold FU; omega) (by omega)
    rw [exE, Nat.add_zero] at i2
    rw [(isW_r K.1).1, Z.2.2.1, if_neg (by rw [nI_leI (by omega) (by omega)]; omega), L0, i2]
    exact ih n (i + 1) (by omega) (by omega)
theorem p_exc (K : WK h a C ln S T) (Z : SK h R E rt en) (hf : ∀ j, j < 12 → h.1 (a + 3) j = fm j) : f_X4_exceptions a h = some (nI (exR fm (mkW C ln rt en T S) E R), h) := by
  have hR := Z.1
  unfold f_X4_exceptions
  rw [L0]
  exact p_excR K Z hf R FU 0 (by unfold FU; omega) (by omega)
theorem q_excE (K : MK h r C ln S T) (Z : NK h R E rt en) (hf : ∀ j, j < 12 → h.1 r (20 + j) = fm j) {i : Nat} (hi : i < R) (k4 : Int32 → Int32 → Hp → Option (Int32 × Hp)) (x : Nat) : ∀ (d n e : Nat), d < n → e + d = E →
    f_X7_exceptions_15 41 r k4 n (nI (x + exE fm (mkW C ln rt en T S) i e)) (nI i) (nI e) h = k4 (nI (x + exE fm (mkW C ln rt en T S) i E)) (nI (i + 1)) h := by
  have hR := Z.1
  have hE := Z.2.1
  intro d
  induction d with
  | zero =>
    intro n e hn hd
    obtain ⟨n, rfl⟩ : ∃ m, n = m + 1 := ⟨n - 1, by omega⟩
    rw [s_X7_exceptions_15]
    unfold g_X7_exceptions_15
    rw [Z.2.2.2.1, if_pos (by rw [nI_leI (by omega) (by omega)]; omega), L1, nI_add, show e = E by omega]
  | succ d ih =>
    intro n e hn hd
    obtain ⟨n, rfl⟩ : ∃ m, n = m + 1 := ⟨n - 1, by omega⟩
    have i2 := ih n (e + 1) (by omega) (by omega)
    rw [exE, ← Nat.add_assoc, ← nI_add (x + _)] at i2
    rw [s_X7_exceptions_15]
    unfold g_X7_exceptions_15 g_X7_exceptions_64 g_X7_exceptions_65
    rw [Z.2.2.2.1, if_neg (by rw [nI_leI (by omega) (by omega)]; omega), L20, L3, pk_mul, nI_add, nI_add, isR_l K.1, if_pos (okI_n (by omega) (by decide)), nI_clamp (by omega), Nat.add_assoc, hf _ (by omega)]
    unfold exI at i2
    by_cases q : fm (3 * i + e) = -9
    · rw [if_pos q] at i2 ⊢
      rw [← i2, L1, nI_add, ← L0]
    · rw [if_neg q] at i2 ⊢
      rw [L15, p_madeBy K Z hi (by omega) (by decide), bnd_s]
      by_cases q2 : fm (3 * i + e) = nI (wlk ln S T 15 C (jn (rt i) (en e)))
      · rw [if_pos q2] at i2 ⊢
        rw [← i2, L1, nI_add, ← L0]
      · rw [if_neg q2] at i2 ⊢
        rw [← i2, L1, nI_add, nI_add]
theorem q_excR (K : MK h r C ln S T) (Z : NK h R E rt en) (hf : ∀ j, j < 12 → h.1 r (20 + j) = fm j) : ∀ (d n i : Nat), d < n → i + d = R →
    f_X7_exceptions_4 41 r n (nI (exR fm (mkW C ln rt en T S) E i)) (nI i) h = some (nI (exR fm (mkW C ln rt en T S) E R), h) := by
  have hR := Z.1
  have hE := Z.2.1
  intro d
  induction d with
  | zero =>
    intro n i hn hd
    obtain ⟨n, rfl⟩ : ∃ m, n = m + 1 := ⟨n - 1, by omega⟩
    rw [s_X7_exceptions_4]
    unfold g_X7_exceptions_4
    rw [Z.2.2.1, if_pos (by rw [nI_leI (by omega) (by omega)]; omega), show i = R by omega]
  | succ d ih =>
    intro n i hn hd
    obtain ⟨n, rfl⟩ : ∃ m, n = m + 1 := ⟨n - 1, by omega⟩
    rw [s_X7_exceptions_4]
    unfold g_X7_exceptions_4
    have i2 := q_excE K Z hf (i := i) (by omega) (f_X7_exceptions_4 41 r n) (exR fm (mkW C ln rt en T S) E i) E FU 0 (by unfold FU; omega) (by omega)
    rw [exE, Nat.add_zero] at i2
    rw [Z.2.2.1, if_neg (by rw [nI_leI (by omega) (by omega)]; omega), L0, i2]
    exact ih n (i + 1) (by omega) (by omega)
theorem q_exc (K : MK h r C ln S T) (Z : NK h R E rt en) (hf : ∀ j, j < 12 → h.1 r (20 + j) = fm j) : f_X7_exceptions 41 r h = some (nI (exR fm (mkW C ln rt en T S) E R), h) := by
  have hR := Z.1
  unfold f_X7_exceptions
  rw [L0]
  exact q_excR K Z hf R FU 0 (by unfold FU; omega) (by omega)
end MADE
