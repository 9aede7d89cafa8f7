/-! words that are told -/
def wB : Nat → Nat → Bool
  | 0, _ => true
  | k + 1, w => if w = 0 then true else if 1 ≤ w % 10 ∧ w % 10 ≤ 5 then wB k (w / 10) else false
theorem p_isWordL (a0 : Int32) (h : Hp) : ∀ (k n rest i : Nat), k < n → rest < 10 ^ k → i + k = 6 → f_X5_isWord_16 a0 n (nI rest) (nI i) h = some (b01 (wB k rest), h) := by
  intro k
  induction k with
  | zero =>
    intro n rest i hn hr hk
    obtain ⟨n, rfl⟩ : ∃ m, n = m + 1 := ⟨n - 1, by omega⟩
    rw [s_X5_isWord_16]
    unfold g_X5_isWord_16
    rw [L6, if_pos (by rw [nI_leI (by omega) (by omega)]; omega)]
    rfl
  | succ k ih =>
    intro n rest i hn hr hk
    obtain ⟨n, rfl⟩ : ∃ m, n = m + 1 := ⟨n - 1, by omega⟩
    have hk6 : 10 ^ (k + 1) ≤ 10 ^ 6 := Nat.pow_le_pow_right (by decide) (by omega)
    have hpk : 10 ^ (k + 1) = 10 ^ k * 10 := Nat.pow_succ ..
    rw [s_X5_isWord_16]
    unfold g_X5_isWord_16 wB
    rw [L6, if_neg (by rw [nI_leI (by omega) (by omega)]; omega), L10, pk_rem (by omega) (by decide) (by decide), pk_div (by omega) (by decide) (by decide)]
    by_cases q : rest = 0
    · rw [if_pos (by rw [L0, nI_leI (by omega) (by omega)]; omega), if_pos q]
      rfl
    · rw [if_neg (by rw [L0, nI_leI (by omega) (by omega)]; omega), if_neg q, L1]
      by_cases q1 : rest % 10 < 1
      · rw [if_pos (by rw [nI_ltI (by omega) (by omega)]; exact q1), if_neg (by omega)]
        rfl
      · rw [if_neg (by rw [nI_ltI (by omega) (by omega)]; exact q1), L5]
        by_cases q2 : rest % 10 ≤ 5
        · rw [if_pos (by rw [nI_leI (by omega) (by omega)]; exact q2), if_pos (by omega), nI_add, ih n _ _ (by omega) (by omega) (by omega)]
        · rw [if_neg (by rw [nI_leI (by omega) (by omega)]; exact q2), if_neg (by omega)]
          rfl
def isWd (x : Int32) : Bool := inI x 0 555555 && wB 6 x.toNatClampNeg
theorem p_isWord (x : Int32) (h : Hp) : f_X5_isWord x h = some (b01 (isWd x), h) := by
  unfold f_X5_isWord isWd
  have e1 : x < 0 ↔ x.toInt < 0 := Int32.lt_iff_toInt_lt
  have e2 : x ≤ 555555 ↔ x.toInt ≤ 555555 := by rw [Int32.le_iff_toInt_le]; rfl
  by_cases q : inI x 0 555555 = true
  · have q3 := of_decide_eq_true q
    obtain ⟨w, hw, rfl⟩ := inI_0 (n := 555555) (by decide) q
    rw [if_neg (fun z => by have := e1.mp z; omega), if_pos (e2.mpr q3.2), q, nI_clamp (by omega), L0, p_isWordL _ h 6 FU w 0 (by decide) (by omega) rfl]
    rfl
  · rw [bfalse q]
    have q3 : ¬ ((0 : Int) ≤ x.toInt ∧ x.toInt ≤ 555555) := fun z => q (decide_eq_true z)
    by_cases q4 : x.toInt < 0
    · rw [if_pos (e1.mpr q4)]; rfl
    · rw [if_neg (fun z => q4 (e1.mp z)), if_neg (fun z => q3 ⟨by omega, e2.mp z⟩)]; rfl
theorem q_isWordL (a0 : Int32) (h : Hp) : ∀ (k n rest : Nat) (b : Bool), k < n → rest < 10 ^ k → k ≤ 6 → f_X7_isWord_18 a0 n (b01 b) (nI rest) h = some (b01 (b && wB k rest), h) := by
  intro k
  induction k with
  | zero =>
    intro n rest b hn hr hk
    obtain ⟨n, rfl⟩ : ∃ m, n = m + 1 := ⟨n - 1, by omega⟩
    rw [s_X7_isWord_18]
    unfold g_X7_isWord_18
    rw [L0, if_pos (by rw [nI_leI (by omega) (by omega)]; omega), if_pos (by rw [okZ_b]; trivial), wB, Bool.and_true]
  | succ k ih =>
    intro n rest b hn hr hk
    obtain ⟨n, rfl⟩ : ∃ m, n = m + 1 := ⟨n - 1, by omega⟩
    have hk6 : 10 ^ (k + 1) ≤ 10 ^ 6 := Nat.pow_le_pow_right (by decide) (by omega)
    have hpk : 10 ^ (k + 1) = 10 ^ k * 10 := Nat.pow_succ ..
    rw [s_X7_isWord_18]
    unfold g_X7_isWord_18 g_X7_isWord_45 g_X7_isWord_46 wB
    by_cases q : rest = 0
    · rw [if_pos (by rw [L0, nI_leI (by omega) (by omega)]; omega), if_pos q, if_pos (by rw [okZ_b]; trivial), Bool.and_true]
    · rw [if_neg (by rw [L0, nI_leI (by omega) (by omega)]; omega), if_neg q, ifb, L10, pk_rem (by omega) (by decide) (by decide), pk_div (by omega) (by decide) (by decide)]
      have i0 := ih n (rest / 10) false (by omega) (by omega) (by omega)
      have i1 := ih n (rest / 10) true (by omega) (by omega) (by omega)
      have e0 : b01 false = 0 := rfl
      have e1 : b01 true = 1 := rfl
      rw [e0] at i0
      rw [e1] at i1
      rw [p_in32 _ _ _ 1 5 rfl rfl, bnd_s, ifb]
      have e3 : inI (nI (rest % 10)) 1 5 = decide (1 ≤ rest % 10 ∧ rest % 10 ≤ 5) := by
        unfold inI
        rw [nI_toInt (by omega)]
        apply decide_eq_decide.mpr
        omega
      rw [e3]
      cases b
      · rw [if_neg (by decide), i0]; rfl
      · rw [if_pos rfl]
        by_cases q2 : 1 ≤ rest % 10 ∧ rest % 10 ≤ 5
        · rw [if_pos q2, if_pos (decide_eq_true q2), i1]
        · rw [if_neg q2, if_neg (by rw [decide_eq_false q2]; decide), i0]; rfl
theorem q_isWord (x : Int32) (h : Hp) : f_X7_isWord x h = some (b01 (isWd x), h) := by
  unfold f_X7_isWord isWd
  rw [p_in32 _ _ _ 0 555555 rfl rfl, bnd_s, ifb]
  by_cases q : inI x 0 555555 = true
  · obtain ⟨w, hw, rfl⟩ := inI_0 (n := 555555) (by decide) q
    rw [if_pos q, q, nI_clamp (by omega)]
    exact q_isWordL _ h 6 FU w true (by decide) (by omega) (by decide)
  · rw [if_neg q, bfalse q]; rfl
/-! a word taken apart -/
section APART
variable {h : Hp} {C R E : Nat} {ln rt en T : Nat → Nat} {S : Nat → Nat → Int32}
def mB (C E : Nat) (ln rt en T : Nat → Nat) (S : Nat → Nat → Int32) (x : Int32) (k : Nat) : Bool := decide (nI (wdK C E ln rt en T S 15 k) = x)
def cU (m : Nat → Bool) : Nat → Nat
  | 0 => 0
  | k + 1 => cU m k + (if m k = true then 1 else 0)
def fU (m : Nat → Bool) (v : Nat → Int32) : Nat → Int32
  | 0 => -9
  | k + 1 => if m k = true then (if cU m k = 0 then v k else fU m v k) else fU m v k
def fD (m : Nat → Bool) (v : Nat → Int32) (K : Nat) : Nat → Int32
  | 0 => -9
  | d + 1 => if m (K - (d + 1)) = true then v (K - (d + 1)) else fD m v K d
def cD (m : Nat → Bool) (K : Nat) : Nat → Nat
  | 0 => 0
  | d + 1 => cD m K d + (if m (K - (d + 1)) = true then 1 else 0)
theorem cD_cU (m : Nat → Bool) (K : Nat) : ∀ d, d ≤ K → cU m (K - d) + cD m K d = cU m K
  | 0, _ => rfl
  | d + 1, hd => by
    have i := cD_cU m K d (by omega)
    rw [show K - d = (K - (d + 1)) + 1 by omega, cU] at i
    rw [cD]
    omega
theorem fD_fU (m : Nat → Bool) (v : Nat → Int32) (K : Nat) : ∀ d, d ≤ K → (if cU m (K - d) = 0 then fD m v K d else fU m v (K - d)) = fU m v K
  | 0, _ => by
    show (if cU m K = 0 then (-9 : Int32) else fU m v K) = fU m v K
    by_cases q : cU m K = 0
    · rw [if_pos q]
      have : ∀ k, cU m k = 0 → fU m v k = -9 := by
        intro k
        induction k with
        | zero => intro _; rfl
        | succ k ih =>
          intro hk
          rw [cU] at hk
          have h1 : ¬ m k = true := fun z => by rw [if_pos z] at hk; omega
          rw [fU, if_neg h1]
          exact ih (by omega)
      exact (this K q).symm
    · rw [if_neg q]
  | d + 1, hd => by
    have i := fD_fU m v K d (by omega)
    rw [show K - d = (K - (d + 1)) + 1 by omega, cU, fU] at i
    rw [fD]
    by_cases q : m (K - (d + 1)) = true
    · rw [if_pos q, if_pos q, if_neg (by omega)] at i
      rw [if_pos q]
      exact i
    · rw [if_neg q, if_neg q, Nat.add_zero] at i
      rw [if_neg q]
      exact i
theorem cU_le (m : Nat → Bool) : ∀ k, cU m k ≤ k
  | 0 => Nat.le_refl _
  | k + 1 => by
    have := cU_le m k
    rw [cU]
    split <;> omega
abbrev vK (E : Nat) : Nat → Int32 := fun k => nI (10 * (k / E) + k % E)
theorem p_apE (K : WK h 9 C ln S T) (Z : SK h R E rt en) (x y : Int32) {i : Nat} (hi : i < R) (k28 : Int32 → Int32 → Int32 → Hp → Option (Int32 × Hp)) : ∀ (d n e : Nat), d < n → e + d = E →
    f_X6_apart_43 0 x y k28 n (nI (cU (mB C E ln rt en T S x) (i * E + e))) (fU (mB C E ln rt en T S x) (vK E) (i * E + e)) (nI i) (nI e) h = k28 (nI (cU (mB C E ln rt en T S x) ((i + 1) * E))) (fU (mB C E ln rt en T S x) (vK E) ((i + 1) * E)) (nI (i + 1)) h := by
  have hR := Z.1
  have hE := Z.2.1
  have h12 := RE12 hR hE
  intro d
  induction d with
  | zero =>
    intro n e hn hd
    obtain ⟨n, rfl⟩ : ∃ m, n = m + 1 := ⟨n - 1, by omega⟩
    rw [s_X6_apart_43]
    unfold g_X6_apart_43
    rw [R0_1, Z.2.2.2.1, if_pos (by rw [nI_leI (by omega) (by omega)]; omega), L1, nI_add, Nat.succ_mul, show e = E by omega]
  | succ d ih =>
    intro n e hn hd
    obtain ⟨n, rfl⟩ : ∃ m, n = m + 1 := ⟨n - 1, by omega⟩
    have hk := klt hi (show e < E by omega)
    have hkd := kdiv (i := i) (show e < E by omega)
    have hcl := cU_le (mB C E ln rt en T S x) (i * E + e)
    have i2 := ih n (e + 1) (by omega) (by omega)
    rw [← Nat.add_assoc, cU, fU] at i2
    have eM : mB C E ln rt en T S x (i * E + e) = decide (nI (wlk ln S T 15 C (jn (rt i) (en e))) = x) := by unfold mB wdK; rw [hkd.1, hkd.2]
    have eV : vK E (i * E + e) = nI (10 * i + e) := by show nI _ = _; rw [hkd.1, hkd.2]
    rw [s_X6_apart_43]
    unfold g_X6_apart_43 g_X6_apart_87 g_X6_apart_92
    rw [R0_1, R0_2, Z.2.2.2.1, if_neg (by rw [nI_leI (by omega) (by omega)]; omega), p_makeOf K Z hi (by omega), bnd_s]
    by_cases q : nI (wlk ln S T 15 C (jn (rt i) (en e))) = x
    · have q' : mB C E ln rt en T S x (i * E + e) = true := by rw [eM]; exact decide_eq_true q
      rw [if_pos q', if_pos q'] at i2
      rw [if_pos q]
      by_cases q0 : cU (mB C E ln rt en T S x) (i * E + e) = 0
      · rw [if_pos q0, eV] at i2
        rw [if_pos (by rw [q0]; rfl), ← i2, L10, pk_mul, nI_add, L1, nI_add, nI_add]
      · rw [if_neg q0] at i2
        rw [if_neg (by rw [L0, nI_eq (by omega) (by omega)]; exact q0), ← i2, L1, nI_add, nI_add]
    · have q' : ¬ mB C E ln rt en T S x (i * E + e) = true := by rw [eM]; simpa using q
      rw [if_neg q', if_neg q'] at i2
      rw [if_neg q, ← i2, L1, nI_add]
      rfl
theorem p_apR (K : WK h 9 C ln S T) (Z : SK h R E rt en) (x y : Int32) : ∀ (d n i : Nat), d < n → i + d = R →
    f_X6_apart_28 0 x y n (nI (cU (mB C E ln rt en T S x) (i * E))) (fU (mB C E ln rt en T S x) (vK E) (i * E)) (nI i) h = if y = 0 then some (nI (cU (mB C E ln rt en T S x) (R * E)), h) else some (fU (mB C E ln rt en T S x) (vK E) (R * E), h) := by
  have hR := Z.1
  have hE := Z.2.1
  intro d
  induction d with
  | zero =>
    intro n i hn hd
    obtain ⟨n, rfl⟩ : ∃ m, n = m + 1 := ⟨n - 1, by omega⟩
    rw [s_X6_apart_28]
    unfold g_X6_apart_28
    rw [R0_1, Z.2.2.1, if_pos (by rw [nI_leI (by omega) (by omega)]; omega), show i = R by omega]
  | succ d ih =>
    intro n i hn hd
    obtain ⟨n, rfl⟩ : ∃ m, n = m + 1 := ⟨n - 1, by omega⟩
    have i2 := p_apE K Z x y (i := i) (by omega) (f_X6_apart_28 0 x y n) E FU 0 (by unfold FU; omega) (by omega)
    rw [Nat.add_zero] at i2
    rw [s_X6_apart_28]
    unfold g_X6_apart_28
    rw [R0_1, Z.2.2.1, if_neg (by rw [nI_leI (by omega) (by omega)]; omega), L0, i2]
    exact ih n (i + 1) (by omega) (by omega)
theorem neg1 : nI 0 - 1 < (0 : Int32) := by decide
theorem m1_eq (n : Nat) : nI n + (-1) = nI n - 1 := by rw [Int32.sub_eq_add_neg]
theorem q_apE (K : MK h 43 C ln S T) (Z : NK h R E rt en) (x y : Int32) {i : Nat} (hi : i < R) (k34 : Int32 → Int32 → Int32 → Hp → Option (Int32 × Hp)) : ∀ (j n : Nat), j < n → j ≤ E →
    f_X7_apart_47 41 x y k34 n (nI (cD (mB C E ln rt en T S x) (R * E) (R * E - (i * E + j)))) (fD (mB C E ln rt en T S x) (vK E) (R * E) (R * E - (i * E + j))) (nI i) (nI j - 1) h = k34 (nI (cD (mB C E ln rt en T S x) (R * E) (R * E - i * E))) (fD (mB C E ln rt en T S x) (vK E) (R * E) (R * E - i * E)) (nI i - 1) h := by
  have hR := Z.1
  have hE := Z.2.1
  have h12 := RE12 hR hE
  intro j
  induction j with
  | zero =>
    intro n hn hd
    obtain ⟨n, rfl⟩ : ∃ m, n = m + 1 := ⟨n - 1, by omega⟩
    rw [s_X7_apart_47]
    unfold g_X7_apart_47
    rw [if_pos neg1, Nat.add_zero, m1_eq]
  | succ j ih =>
    intro n hn hd
    obtain ⟨n, rfl⟩ : ∃ m, n = m + 1 := ⟨n - 1, by omega⟩
    have hk := klt hi (show j < E by omega)
    have hkd := kdiv (i := i) (show j < E by omega)
    have i2 := ih n (by omega) (by omega)
    have hs : R * E - (i * E + j) = (R * E - (i * E + (j + 1))) + 1 := by omega
    have hp : R * E - ((R * E - (i * E + (j + 1))) + 1) = i * E + j := by omega
    rw [hs, cD, fD, hp] at i2
    have eM : mB C E ln rt en T S x (i * E + j) = decide (nI (wlk ln S T 15 C (jn (rt i) (en j))) = x) := by unfold mB wdK; rw [hkd.1, hkd.2]
    have eV : vK E (i * E + j) = nI (10 * i + j) := by show nI _ = _; rw [hkd.1, hkd.2]
    rw [s_X7_apart_47]
    unfold g_X7_apart_47 g_X7_apart_75 g_X7_apart_88 g_X7_apart_108
    rw [nI_pred, if_neg (by rw [L0, nI_ltI (by omega) (by omega)]; omega), R41_2, L15, p_madeBy K Z hi (by omega) (by decide), bnd_s]
    by_cases q : nI (wlk ln S T 15 C (jn (rt i) (en j))) = x
    · have q' : mB C E ln rt en T S x (i * E + j) = true := by rw [eM]; exact decide_eq_true q
      rw [if_pos q', if_pos q', eV] at i2
      rw [if_pos q, if_neg (by decide), if_neg (by decide), m1_eq, ← i2, L10, pk_mul, nI_add, L1, nI_add]
    · have q' : ¬ mB C E ln rt en T S x (i * E + j) = true := by rw [eM]; simpa using q
      rw [if_neg q', if_neg q'] at i2
      rw [if_neg q, if_pos rfl, if_pos rfl, m1_eq, ← i2, L0, nI_add]
theorem q_apR (K : MK h 43 C ln S T) (Z : NK h R E rt en) (x y : Int32) : ∀ (i n : Nat), i < n → i ≤ R →
    f_X7_apart_34 41 x y n (nI (cD (mB C E ln rt en T S x) (R * E) (R * E - i * E))) (fD (mB C E ln rt en T S x) (vK E) (R * E) (R * E - i * E)) (nI i - 1) h = if y = 0 then some (nI (cU (mB C E ln rt en T S x) (R * E)), h) else some (fU (mB C E ln rt en T S x) (vK E) (R * E), h) := by
  have hR := Z.1
  have hE := Z.2.1
  have h12 := RE12 hR hE
  intro i
  induction i with
  | zero =>
    intro n hn hd
    obtain ⟨n, rfl⟩ : ∃ m, n = m + 1 := ⟨n - 1, by omega⟩
    have c1 := cD_cU (mB C E ln rt en T S x) (R * E) (R * E) (Nat.le_refl _)
    have c2 := fD_fU (mB C E ln rt en T S x) (vK E) (R * E) (R * E) (Nat.le_refl _)
    rw [Nat.sub_self, cU, Nat.zero_add] at c1
    rw [Nat.sub_self, cU, if_pos rfl] at c2
    rw [s_X7_apart_34]
    unfold g_X7_apart_34
    rw [if_pos neg1, Nat.zero_mul, Nat.sub_zero, c1, c2]
  | succ i ih =>
    intro n hn hd
    obtain ⟨n, rfl⟩ : ∃ m, n = m + 1 := ⟨n - 1, by omega⟩
    have i2 := q_apE K Z x y (i := i) (by omega) (f_X7_apart_34 41 x y n) E FU (by unfold FU; omega) (Nat.le_refl _)
    rw [s_X7_apart_34]
    unfold g_X7_apart_34
    rw [nI_pred, if_neg (by rw [L0, nI_ltI (by omega) (by omega)]; omega), Z.2.2.2.1, Nat.succ_mul, i2]
    exact ih n (by omega) (by omega)
end APART
theorem st_apart {h : Hp} (H : Rel h) (x y : Int32) : St (f_X6_apart 0 x y) (f_X7_apart 41 x y) h := by
  have H0 := H
  obtain ⟨C, hW, ⟨R, E, rt, en, Z, Zm⟩, -⟩ := H
  have hR := Z.1
  have hE := Z.2.1
  have K := hW.wk
  have M := hW.mk
  by_cases q : isWd x = true
  · have e1 := p_apR K Z x y R FU 0 (by unfold FU; omega) (by omega)
    have e2 := q_apR M Zm x y R FU (by unfold FU; omega) (Nat.le_refl _)
    rw [Nat.zero_mul] at e1
    rw [Nat.sub_self] at e2
    by_cases q2 : inI y 0 1 = true
    · have q3 : y = 0 ∨ y = 1 := by
        obtain ⟨i, hi, rfl⟩ := inI_0 (n := 1) (by decide) q2
        rcases (show i = 0 ∨ i = 1 by omega) with rfl | rfl
        · exact Or.inl rfl
        · exact Or.inr rfl
      have e3 : f_X6_apart 0 x y h = (if y = 0 then some (nI (cU (mB C E (lnH h 9) rt en (TH h 9) (SH h 9) x) (R * E)), h) else some (fU (mB C E (lnH h 9) rt en (TH h 9) (SH h 9) x) (vK E) (R * E), h)) := by
        unfold f_X6_apart g_X6_apart_19
        rw [p_isWord, bnd_s, ifb, if_pos q, ← e1]
        rcases q3 with rfl | rfl
        · rw [if_pos rfl]; rfl
        · rw [if_neg (by decide), if_pos rfl]; rfl
      have e4 : f_X7_apart 41 x y h = (if y = 0 then some (nI (cU (mB C E (lnH h 9) rt en (TH h 9) (SH h 9) x) (R * E)), h) else some (fU (mB C E (lnH h 9) rt en (TH h 9) (SH h 9) x) (vK E) (R * E), h)) := by
        unfold f_X7_apart
        rw [q_isWord, bnd_s, ifb, if_pos q, p_in32 _ _ _ 0 1 rfl rfl, bnd_s, ifb, if_pos q2, Zm.2.2.1, ← e2]
        rfl
      by_cases q4 : y = 0
      · rw [if_pos q4] at e3 e4
        exact St_ro H0 e3 e4
      · rw [if_neg q4] at e3 e4
        exact St_ro H0 e3 e4
    · have q3 : ¬ y = 0 := fun z => q2 (by rw [z]; decide)
      have q4 : ¬ y = 1 := fun z => q2 (by rw [z]; decide)
      refine St_ro H0 (r := -2) ?_ ?_
      · unfold f_X6_apart
        rw [p_isWord, bnd_s, ifb, if_pos q, if_neg q3, if_neg q4]
      · unfold f_X7_apart
        rw [q_isWord, bnd_s, ifb, if_pos q, p_in32 _ _ _ 0 1 rfl rfl, bnd_s, ifb, if_neg q2]
  · refine St_ro H0 (r := -2) ?_ ?_
    · unfold f_X6_apart
      rw [p_isWord, bnd_s, ifb, if_neg q]
    · unfold f_X7_apart
      rw [q_isWord, bnd_s, ifb, if_neg q]
