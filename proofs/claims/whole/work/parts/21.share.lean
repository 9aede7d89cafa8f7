/-! weighted sums -/
def smN (a f : Nat → Nat) : Nat → Nat
  | 0 => 0
  | s + 1 => smN a f s + a s * f s
theorem smN_0 (a f : Nat → Nat) : smN a f 0 = 0 := rfl
theorem smN_add1 {a a' f : Nat → Nat} {g : Nat} (ho : ∀ s, s ≠ g → a' s = a s) (hg : a' g = a g + 1) : ∀ n, smN a' f n = smN a f n + (if g < n then f g else 0)
  | 0 => by simp [smN]
  | n + 1 => by
    have i := smN_add1 (f := f) ho hg n
    unfold smN
    by_cases q : n = g
    · subst q
      rw [i, hg, if_neg (by omega), if_pos (by omega), Nat.add_mul]
      omega
    · rw [i, ho n q]
      by_cases q2 : g < n
      · rw [if_pos q2, if_pos (by omega)]; omega
      · rw [if_neg q2, if_neg (by omega)]; omega
theorem smN_cg {a b f : Nat → Nat} : ∀ n, (∀ s, s < n → a s = b s) → smN a f n = smN b f n
  | 0, _ => rfl
  | n + 1, h => by unfold smN; rw [smN_cg n (fun s hs => h s (by omega)), h n (by omega)]
theorem smN_ext {a f : Nat → Nat} {k : Nat} : ∀ m, k ≤ m → (∀ s, k ≤ s → s < m → a s = 0) → smN a f m = smN a f k
  | 0, hk, _ => by rw [show k = 0 by omega]
  | m + 1, hk, hz => by
    by_cases q : k = m + 1
    · rw [q]
    · show smN a f m + a m * f m = smN a f k
      rw [smN_ext m (by omega) (fun s h1 h2 => hz s h1 (by omega)), hz m (by omega) (by omega)]
      omega
/-! orders as numbers -/
def dgO (C o p : Nat) : Nat := o / 4 ^ (C - 1 - p) % 4
def ioS (C o : Nat) : Nat → Nat
  | 0 => 0
  | p + 1 => ioS C o p ||| 2 ^ dgO C o p
def ioB (C o : Nat) : Bool := decide (ioS C o C = 2 ^ C - 1)
def psF (C o c : Nat) : Nat := ((List.range C).find? (fun p => decide (dgO C o p = c))).getD 0
theorem dg_ok : ∀ C, C ≤ 4 → ∀ o, o < 4 ^ C → ∀ p, p < C → ((nI o >>> ((2 * (nI C - 1 - nI p)) &&& 31)) &&& 3) = nI (dgO C o p) := by decide +kernel
theorem dg_lt (C o p : Nat) : dgO C o p < 4 := Nat.mod_lt _ (by decide)
theorem or_ok : ∀ a, a < 16 → ∀ d, d < 4 → ((nI a ||| (1 <<< (nI d &&& 31))) = nI (a ||| 2 ^ d) ∧ a ||| 2 ^ d < 16) := by decide +kernel
theorem ioS_lt (C o : Nat) : ∀ p, ioS C o p < 16
  | 0 => by unfold ioS; decide
  | p + 1 => (or_ok _ (ioS_lt C o p) _ (dg_lt C o p)).2
theorem ps_ok1 : ∀ C, C ≤ 4 → ∀ o, o < 4 ^ C → ioB C o = true → ∀ c, c < C → psF C o c < C ∧ dgO C o (psF C o c) = c := by decide +kernel
def psC (C o c : Nat) : Bool := (List.range (psF C o c)).all (fun p => !decide (dgO C o p = c))
theorem ps_ok2 : ∀ C, C ≤ 4 → ∀ o, o < 4 ^ C → ioB C o = true → ∀ c, c < C → psC C o c = true := by decide +kernel
theorem ps_ok {C : Nat} (hC : C ≤ 4) {o : Nat} (ho : o < 4 ^ C) (hb : ioB C o = true) {c : Nat} (hc : c < C) : psF C o c < C ∧ dgO C o (psF C o c) = c ∧ ∀ p, p < psF C o c → dgO C o p ≠ c := by
  have h1 := ps_ok1 C hC o ho hb c hc
  exact ⟨h1.1, h1.2, fun p hp => by
    have h2 := List.all_eq_true.mp (ps_ok2 C hC o ho hb c hc) p (List.mem_range.mpr hp)
    simpa using h2⟩
theorem pow256 {C : Nat} (hC : C ≤ 4) : 4 ^ C ≤ 256 := by
  have : 4 ^ C ≤ 4 ^ 4 := Nat.pow_le_pow_right (by decide) hC
  omega
theorem p_chAt {h : Hp} {C o p : Nat} (hC : C ≤ 4) (h13 : h.1 41 13 = nI C) (ho : o < 4 ^ C) (hp : p < C) : f_X7_changeAt 41 (nI o) (nI p) h = some (nI (dgO C o p), h) := by
  unfold f_X7_changeAt
  rw [h13, dg_ok C hC o ho p hp]
theorem p_isOrdL {h : Hp} {C o : Nat} (hC : C ≤ 4) (h13 : h.1 41 13 = nI C) (ho : o < 4 ^ C) : ∀ (d n p : Nat), d < n → p + d = C → f_X7_isOrder_4 41 (nI o) n (nI (ioS C o p)) (nI p) h = some (b01 (ioB C o), h) := by
  have h16 := pow16 hC
  intro d
  induction d with
  | zero =>
    intro n p hn hd
    obtain ⟨n, rfl⟩ : ∃ m, n = m + 1 := ⟨n - 1, by omega⟩
    have hl := ioS_lt C o C
    rw [s_X7_isOrder_4]
    unfold g_X7_isOrder_4 ioB b01
    rw [h13, if_pos (by rw [nI_leI (by omega) (by omega)]; omega), shlC C hC, L1, pk_sub (by omega), show p = C by omega]
    by_cases q : ioS C o C = 2 ^ C - 1
    · rw [if_pos (by rw [q]), if_pos (decide_eq_true q)]
    · rw [if_neg (by rw [nI_eq (by omega) (by omega)]; exact q), if_neg (by simpa using q)]
  | succ d ih =>
    intro n p hn hd
    obtain ⟨n, rfl⟩ : ∃ m, n = m + 1 := ⟨n - 1, by omega⟩
    rw [s_X7_isOrder_4]
    unfold g_X7_isOrder_4
    rw [h13, if_neg (by rw [nI_leI (by omega) (by omega)]; omega), p_chAt hC h13 ho (by omega), bnd_s, (or_ok _ (ioS_lt C o p) _ (dg_lt C o p)).1, L1, nI_add]
    exact ih n (p + 1) (by omega) (by omega)
theorem p_isOrd {h : Hp} {C o : Nat} (hC : C ≤ 4) (h13 : h.1 41 13 = nI C) (ho : o < 4 ^ C) : f_X7_isOrder 41 (nI o) h = some (b01 (ioB C o), h) := by
  unfold f_X7_isOrder
  exact p_isOrdL hC h13 ho C FU 0 (by unfold FU; omega) (by omega)
/-- how often a set of changes is what has come ahead of c -/
def cmO (C o c : Nat) : Nat := ioS C o (psF C o c)
def cnO (C c : Nat) : Nat → Nat → Nat
  | 0, _ => 0
  | o + 1, s => cnO C c o s + (if ioB C o = true ∧ cmO C o c = s then 1 else 0)
def fcn (k : Nat) : Nat := ([1, 1, 2, 6, 24] : List Nat).getD k 0
def wgt (C c s : Nat) : Nat := if s < 2 ^ C ∧ s.testBit c = false then fcn (pcN s) * fcn (C - 1 - pcN s) else 0
set_option maxRecDepth 100000 in
theorem cn_wgt : ∀ C, C ≤ 4 → ∀ c, c < C → ∀ s, s < 16 → cnO C c (4 ^ C) s = wgt C c s := by decide +kernel
theorem fct_n : ∀ k, k < 5 → fct k = nI (fcn k) := by decide +kernel
theorem sub_ring (a b c d e : Int32) : (a - b) + c * (d - e) = (a + c * d) - (b + c * e) := by grind
theorem sub_ring1 (a b d e : Int32) : (a - b) + (d - e) = (a + d) - (b + e) := by grind
/-! the class's shares -/
section SHARE
variable {h : Hp} {C R E : Nat} {ln rt en T : Nat → Nat} {S : Nat → Nat → Int32}
def uN_ (C R E : Nat) (ln rt en T : Nat → Nat) (S : Nat → Nat → Int32) (s : Nat) : Nat := (acN (wdK C E ln rt en T S s) (R * E)).length
theorem uN_le (hR : R ≤ 4) (hE : E ≤ 3) (s : Nat) : uN_ C R E ln rt en T S s ≤ 12 := Nat.le_trans (acN_len _ _) (RE12 hR hE)
theorem pc_lt : ∀ C, C ≤ 4 → ∀ c, c < C → ∀ s, s < 2 ^ C → s.testBit c = false → pcN s + 1 ≤ C := by decide +kernel
theorem p_shL (K : WK h 9 C ln S T) (Z : SK h R E rt en) {c : Nat} (hc : c < C) (up : Int32) : ∀ (d n s : Nat) (g : Nat → Int32), d < n → s + d = 2 ^ C →
    ∃ g', f_X6_share_27 0 (nI c) up n (nI C) (nI (smN (wgt C c) (fun s => uN_ C R E ln rt en T S (s ||| 2 ^ c)) s) - nI (smN (wgt C c) (uN_ C R E ln rt en T S) s)) (nI s) (sA h 13 g) = f_X6_fraction (nI (smN (wgt C c) (fun s => uN_ C R E ln rt en T S (s ||| 2 ^ c)) (2 ^ C)) - nI (smN (wgt C c) (uN_ C R E ln rt en T S) (2 ^ C))) (nI (fcn C)) up (sA h 13 g') := by
  have hC := K.2.1
  have h16 := pow16 hC
  intro d
  induction d with
  | zero =>
    intro n s g hn hd
    obtain ⟨n, rfl⟩ : ∃ m, n = m + 1 := ⟨n - 1, by omega⟩
    have K' : WK (sA h 13 g) 9 C ln S T := K.sA g (by decide) (by decide) (by decide)
    refine ⟨g, ?_⟩
    rw [s_X6_share_27]
    unfold g_X6_share_27
    rw [R0_2, p_all K', bnd_s, if_pos (by rw [nI_ltI (by omega) (by omega)]; omega), if_pos (okI_n (by omega) (by decide)), nI_clamp (by omega), fct_n C (by omega), show s = 2 ^ C by omega]
    cases f_X6_fraction (nI (smN (wgt C c) (fun s => uN_ C R E ln rt en T S (s ||| 2 ^ c)) (2 ^ C)) - nI (smN (wgt C c) (uN_ C R E ln rt en T S) (2 ^ C))) (nI (fcn C)) up (sA h 13 g) with
    | none => rfl
    | some q => rfl
  | succ d ih =>
    intro n s g hn hd
    obtain ⟨n, rfl⟩ : ∃ m, n = m + 1 := ⟨n - 1, by omega⟩
    have K' : WK (sA h 13 g) 9 C ln S T := K.sA g (by decide) (by decide) (by decide)
    have Z' : SK (sA h 13 g) R E rt en := Z.sA g (by decide) (by decide) (by decide)
    have hb := bit_c s (by omega) c (by omega)
    by_cases q : s.testBit c = false
    · have ho := or_ok s (by omega) c (by omega)
      obtain ⟨g1, u1⟩ := p_unl (set := s ||| 2 ^ c) K' Z' ho.2
      have u1 : f_X4_unlikeWords 9 (nI (s ||| 2 ^ c)) (sA h 13 g) = some (nI (uN_ C R E ln rt en T S (s ||| 2 ^ c)), sA (sA h 13 g) 13 g1) := u1
      rw [sA_sA] at u1
      have K2 : WK (sA h 13 g1) 9 C ln S T := K.sA g1 (by decide) (by decide) (by decide)
      have Z2 : SK (sA h 13 g1) R E rt en := Z.sA g1 (by decide) (by decide) (by decide)
      obtain ⟨g2, u2⟩ := p_unl (set := s) K2 Z2 (by omega)
      have u2 : f_X4_unlikeWords 9 (nI s) (sA h 13 g1) = some (nI (uN_ C R E ln rt en T S s), sA (sA h 13 g1) 13 g2) := u2
      rw [sA_sA] at u2
      have hp := pc_lt C hC c hc s (by omega) q
      obtain ⟨g', i2⟩ := ih n (s + 1) g2 (by omega) (by omega)
      refine ⟨g', ?_⟩
      have ew : wgt C c s = fcn (pcN s) * fcn (C - 1 - pcN s) := by unfold wgt; rw [if_pos ⟨by omega, q⟩]
      rw [smN, smN, ew] at i2
      rw [s_X6_share_27]
      unfold g_X6_share_27 g_X6_share_105
      rw [R0_2, p_all K', bnd_s, if_neg (by rw [nI_ltI (by omega) (by omega)]; omega), if_pos (hb.mpr q), p_bitC s (by omega), bnd_s, if_pos (okI_n (by omega) (by decide)), L1, pk_sub (show 1 ≤ C by omega), pk_sub (show pcN s ≤ C - 1 by omega), if_pos (okI_n (by omega) (by decide)), ← L1, ho.1, u1, bnd_s, u2, bnd_s, nI_clamp (by omega), nI_clamp (by omega), fct_n _ (by omega), fct_n _ (by omega), pk_mul, sub_ring, pk_mul, pk_mul, nI_add, nI_add, L1, nI_add]
      exact i2
    · obtain ⟨g', i2⟩ := ih n (s + 1) g (by omega) (by omega)
      refine ⟨g', ?_⟩
      have ew : wgt C c s = 0 := by unfold wgt; rw [if_neg (fun z => q z.2)]
      rw [smN, smN, ew, Nat.zero_mul, Nat.zero_mul, Nat.add_zero, Nat.add_zero] at i2
      rw [s_X6_share_27]
      unfold g_X6_share_27 g_X6_share_105
      rw [R0_2, p_all K', bnd_s, if_neg (by rw [nI_ltI (by omega) (by omega)]; omega), if_neg (fun z => q (hb.mp z)), L1, nI_add]
      exact i2
/-! the reference's shares -/
theorem q_sh1 (M : MK h 43 C ln S T) (Z : NK h R E rt en) (a1 up : Int32) : ∀ (d n s : Nat) (g f : Nat → Int32), d < n → s + d = 2 ^ C → (∀ j, j < s → f j = nI (uN_ C R E ln rt en T S j)) →
    ∃ g' f', (∀ j, j < 2 ^ C → f' j = nI (uN_ C R E ln rt en T S j)) ∧ f_X7_share_12 41 a1 up n (nI s) (sA (sA h 57 g) 58 f) = f_X7_share_48 41 a1 up FU 0 0 (sA (sA h 57 g') 58 f') := by
  have hC := M.2.1
  have h16 := pow16 hC
  intro d
  induction d with
  | zero =>
    intro n s g f hn hd hf
    obtain ⟨n, rfl⟩ : ∃ m, n = m + 1 := ⟨n - 1, by omega⟩
    refine ⟨g, f, by rw [show 2 ^ C = s by omega]; exact hf, ?_⟩
    have M' : MK (sA (sA h 57 g) 58 f) 43 C ln S T := (M.sA g (by decide) (by decide)).sA f (by decide) (by decide)
    rw [s_X7_share_12]
    unfold g_X7_share_12
    rw [M'.2.2.1, shlC C hC, if_pos (by rw [nI_leI (by omega) (by omega)]; omega)]
  | succ d ih =>
    intro n s g f hn hd hf
    obtain ⟨n, rfl⟩ : ∃ m, n = m + 1 := ⟨n - 1, by omega⟩
    have M' : MK (sA (sA h 57 g) 58 f) 43 C ln S T := (M.sA g (by decide) (by decide)).sA f (by decide) (by decide)
    have Z' : NK (sA (sA h 57 g) 58 f) R E rt en := (Z.sA g (by decide) (by decide) (by decide)).sA f (by decide) (by decide) (by decide)
    obtain ⟨g1, u1⟩ := q_unl (set := s) M' Z' (by omega)
    have u1 : f_X7_unlike 41 43 (nI s) (sA (sA h 57 g) 58 f) = some (nI (uN_ C R E ln rt en T S s), sA (sA (sA h 57 g) 58 f) 57 g1) := u1
    have e1 : sA (sA (sA h 57 g) 58 f) 57 g1 = sA (sA h 57 g1) 58 f := by
      unfold sA
      congr 1
      funext a
      by_cases q : a = 57
      · subst q; simp
      · simp [q]
    rw [e1] at u1
    obtain ⟨g', f', k1, k2⟩ := ih n (s + 1) g1 (upd f s (nI (uN_ C R E ln rt en T S s))) (by omega) (by omega) (fun j hj => by
      by_cases q : j = s
      · subst q; simp [upd]
      · simp only [upd, q, if_false]; exact hf j (by omega))
    refine ⟨g', f', k1, ?_⟩
    rw [s_X7_share_12]
    unfold g_X7_share_12
    rw [M'.2.2.1, shlC C hC, if_neg (by rw [nI_leI (by omega) (by omega)]; omega), R41_2, R41_29, N_58, u1, bnd_s, if_pos (okI_n (by omega) (by decide)), nI_clamp (by omega), sI_sA, L1, nI_add]
    exact k2
theorem q_sh2 (hC : C ≤ 4) (h13 : h.1 41 13 = nI C) {u : Nat → Nat} (hu : ∀ j, j < 16 → j < 2 ^ C → h.1 58 j = nI (u j)) {c o : Nat} (hc : c < C) (ho : o < 4 ^ C) (hio : ioB C o = true) (up more : Int32) (k48 : Int32 → Int32 → Hp → Option (Int32 × Hp)) : ∀ (d n p : Nat), d < n → p + d = psF C o c →
    f_X7_share_76 41 (nI c) up k48 n more (nI o) (nI (ioS C o p)) (nI p) h = k48 (more + (nI (u (cmO C o c ||| 2 ^ c)) - nI (u (cmO C o c)))) (nI (o + 1)) h := by
  have h256 := pow256 hC
  obtain ⟨p1, p2, p3⟩ := ps_ok hC ho hio hc
  have hs : ∀ C, C ≤ 4 → ∀ o, o < 4 ^ C → ioB C o = true → ∀ c, c < C → cmO C o c < 2 ^ C ∧ cmO C o c ||| 2 ^ c < 2 ^ C := by decide +kernel
  have hs := hs C hC o ho hio c hc
  have h16 := pow16 hC
  intro d
  induction d with
  | zero =>
    intro n p hn hd
    obtain ⟨n, rfl⟩ : ∃ m, n = m + 1 := ⟨n - 1, by omega⟩
    have hl := ioS_lt C o p
    have hor := or_ok (ioS C o p) hl c (by omega)
    rw [s_X7_share_76]
    unfold g_X7_share_76 g_X7_share_131
    have hpp : p = psF C o c := by omega
    rw [p_chAt hC h13 ho (by omega), bnd_s, if_pos (by rw [hpp, p2]), hor.1, R41_29, N_58, if_pos (okI_n hor.2 (by decide)), if_pos (okI_n hl (by decide)), nI_clamp (by omega), nI_clamp (by omega), L1, nI_add]
    have e1 : ioS C o p = cmO C o c := by rw [hpp]; rfl
    rw [e1, hu _ (by omega) hs.2, hu _ (by omega) hs.1]
  | succ d ih =>
    intro n p hn hd
    obtain ⟨n, rfl⟩ : ∃ m, n = m + 1 := ⟨n - 1, by omega⟩
    have hne := p3 p (by omega)
    have hdl := dg_lt C o p
    rw [s_X7_share_76]
    unfold g_X7_share_76
    rw [p_chAt hC h13 ho (by omega), bnd_s, if_neg (by rw [nI_eq (by omega) (by omega)]; exact hne), p_chAt hC h13 ho (by omega), bnd_s, (or_ok _ (ioS_lt C o p) _ (dg_lt C o p)).1, L1, nI_add]
    exact ih n (p + 1) (by omega) (by omega)
theorem facL (h : Hp) : ∀ C, C ≤ 4 → f_X7_factorial (nI C) h = some (nI (fcn C), h) := by
  intro C hC
  unfold f_X7_factorial
  rw [show FU = 995 + 1 + 1 + 1 + 1 + 1 from rfl]
  rcases (show C = 0 ∨ C = 1 ∨ C = 2 ∨ C = 3 ∨ C = 4 by omega) with rfl | rfl | rfl | rfl | rfl
  · rw [s_X7_factorial_4]; unfold g_X7_factorial_4; rw [if_pos (by decide)]; rfl
  · rw [s_X7_factorial_4]; unfold g_X7_factorial_4; rw [if_pos (by decide)]; rfl
  · rw [s_X7_factorial_4]; unfold g_X7_factorial_4; rw [if_neg (by decide), s_X7_factorial_4]; unfold g_X7_factorial_4; rw [if_pos (by decide)]; rfl
  · rw [s_X7_factorial_4]; unfold g_X7_factorial_4; rw [if_neg (by decide), s_X7_factorial_4]; unfold g_X7_factorial_4; rw [if_neg (by decide), s_X7_factorial_4]; unfold g_X7_factorial_4; rw [if_pos (by decide)]; rfl
  · rw [s_X7_factorial_4]; unfold g_X7_factorial_4; rw [if_neg (by decide), s_X7_factorial_4]; unfold g_X7_factorial_4; rw [if_neg (by decide), s_X7_factorial_4]; unfold g_X7_factorial_4; rw [if_neg (by decide), s_X7_factorial_4]; unfold g_X7_factorial_4; rw [if_pos (by decide)]; rfl
theorem shl2C : ∀ C, C ≤ 4 → (1 : Int32) <<< ((2 * nI C) &&& 31) = nI (4 ^ C) := by decide +kernel
theorem q_sh3 (hC : C ≤ 4) (h13 : h.1 41 13 = nI C) {u : Nat → Nat} (hu : ∀ j, j < 16 → j < 2 ^ C → h.1 58 j = nI (u j)) {c : Nat} (hc : c < C) (up : Int32) : ∀ (d n o : Nat), d < n → o + d = 4 ^ C →
    f_X7_share_48 41 (nI c) up n (nI (smN (cnO C c o) (fun s => u (s ||| 2 ^ c)) 16) - nI (smN (cnO C c o) u 16)) (nI o) h = f_X7_fraction (nI (smN (cnO C c (4 ^ C)) (fun s => u (s ||| 2 ^ c)) 16) - nI (smN (cnO C c (4 ^ C)) u 16)) (nI (fcn C)) up h := by
  have h256 := pow256 hC
  intro d
  induction d with
  | zero =>
    intro n o hn hd
    obtain ⟨n, rfl⟩ : ∃ m, n = m + 1 := ⟨n - 1, by omega⟩
    rw [s_X7_share_48]
    unfold g_X7_share_48
    rw [h13, shl2C C hC, if_pos (by rw [nI_leI (by omega) (by omega)]; omega), facL h C hC, bnd_s, show o = 4 ^ C by omega]
    cases f_X7_fraction (nI (smN (cnO C c (4 ^ C)) (fun s => u (s ||| 2 ^ c)) 16) - nI (smN (cnO C c (4 ^ C)) u 16)) (nI (fcn C)) up h with
    | none => rfl
    | some q => rfl
  | succ d ih =>
    intro n o hn hd
    obtain ⟨n, rfl⟩ : ∃ m, n = m + 1 := ⟨n - 1, by omega⟩
    have i2 := ih n (o + 1) (by omega) (by omega)
    rw [s_X7_share_48]
    unfold g_X7_share_48 g_X7_share_131
    rw [h13, shl2C C hC, if_neg (by rw [nI_leI (by omega) (by omega)]; omega), p_isOrd hC h13 (by omega), bnd_s, ifb]
    by_cases q : ioB C o = true
    · have hp := (ps_ok hC (show o < 4 ^ C by omega) q hc).1
      have hcm : cmO C o c < 16 := ioS_lt C o _
      have a1 : ∀ f : Nat → Nat, smN (cnO C c (o + 1)) f 16 = smN (cnO C c o) f 16 + f (cmO C o c) := by
        intro f
        rw [smN_add1 (a := cnO C c o) (g := cmO C o c) (fun s hs => by rw [cnO, if_neg (fun z => hs z.2.symm), Nat.add_zero]) (by rw [cnO, if_pos ⟨q, rfl⟩]) 16, if_pos hcm]
      rw [a1, a1, ← nI_add, ← nI_add, ← sub_ring1] at i2
      rw [if_pos q, ← i2]
      exact q_sh2 hC h13 hu hc (by omega) q up _ _ (psF C o c) FU 0 (by unfold FU; omega) (by omega)
    · have a1 : ∀ s, cnO C c (o + 1) s = cnO C c o s := fun s => by rw [cnO, if_neg (fun z => q z.1), Nat.add_zero]
      rw [smN_cg (a := cnO C c (o + 1)) 16 (fun s _ => a1 s), smN_cg (a := cnO C c (o + 1)) 16 (fun s _ => a1 s)] at i2
      rw [if_neg q, L1, nI_add]
      exact i2
theorem smN_le {a f : Nat → Nat} {m : Nat} (ha : ∀ s, a s ≤ 24) (hf : ∀ s, f s ≤ m) : ∀ n, smN a f n ≤ n * (24 * m)
  | 0 => by simp [smN]
  | n + 1 => by
    have i := smN_le ha hf n
    have := Nat.mul_le_mul (ha n) (hf n)
    unfold smN
    rw [Nat.succ_mul]
    omega
theorem wgt_le : ∀ C, C ≤ 4 → ∀ c, c < 4 → ∀ s, s < 16 → wgt C c s ≤ 24 := by decide +kernel
theorem fcn_in : ∀ C, C ≤ 4 → 0 < fcn C ∧ fcn C < 2 ^ 14 := by decide
end SHARE
theorem frac_any {v : Int32} {A B : Nat} (hA : A < 2 ^ 31) (hv : v = nI A ∨ v = -nI A) (hB0 : 0 < B) (hB : B < 2 ^ 14) (up : Int32) : ∃ r, (∀ h : Hp, f_X6_fraction v (nI B) up h = some (r, h)) ∧ (∀ h : Hp, f_X7_fraction v (nI B) up h = some (r, h)) := by
  refine ⟨if up = 0 then nI B / nI (Nat.gcd A B) else v / nI (Nat.gcd A B), fun h => ?_, fun h => ?_⟩
  · exact (frac_val hA hv hB0 hB up h).1
  · exact (frac_val hA hv hB0 hB up h).2
theorem st_share {h : Hp} (H : Rel h) (x up : Int32) : St (f_X6_share 0 x up) (f_X7_share 41 x up) h := by
  have H0 := H
  obtain ⟨C, hW, ⟨R, E, rt, en, Z, Zm⟩, -⟩ := H
  have hR := Z.1
  have hE := Z.2.1
  have hC := hW.1
  have K := hW.wk
  have M := hW.mk
  have h16 := pow16 hC
  have h256 := pow256 hC
  by_cases q : inI x 0 (C - 1) = true
  · obtain ⟨c, hc, rfl⟩ := inI_of (by omega) q
    obtain ⟨g1, a1⟩ := p_shL K Z hc up (2 ^ C) FU 0 (h.1 13) (by unfold FU; omega) (by omega)
    have e00 : nI 0 - nI 0 = (0 : Int32) := by decide
    rw [sA_self, smN_0, smN_0, e00, ← L0] at a1
    have M1 : MK (sA h 13 g1) 43 C (lnH h 9) (SH h 9) (TH h 9) := M.sA g1 (by decide) (by decide)
    have Z1 : NK (sA h 13 g1) R E rt en := Zm.sA g1 (by decide) (by decide) (by decide)
    obtain ⟨g2, f2, hf2, a2⟩ := q_sh1 M1 Z1 (nI c) up (2 ^ C) FU 0 ((sA h 13 g1).1 57) ((sA h 13 g1).1 58) (by unfold FU; omega) (by omega) (fun j hj => absurd hj (by omega))
    rw [sA_self, sA_self, ← L0] at a2
    have M2 : MK (sA (sA (sA h 13 g1) 57 g2) 58 f2) 43 C (lnH h 9) (SH h 9) (TH h 9) := (M1.sA g2 (by decide) (by decide)).sA f2 (by decide) (by decide)
    have a3 := q_sh3 (u := uN_ C R E (lnH h 9) rt en (TH h 9) (SH h 9)) hC M2.2.2.1 (fun j _ hj => by rw [sA_at]; exact hf2 j hj) hc up (4 ^ C) FU 0 (by unfold FU; omega) (by omega)
    have e0 : ∀ f : Nat → Nat, smN (cnO C c (4 ^ C)) f 16 = smN (wgt C c) f (2 ^ C) := by
      intro f
      rw [smN_cg (b := wgt C c) 16 (fun s hs => cn_wgt C hC c hc s hs)]
      exact smN_ext 16 h16.1 (fun s h1 _ => by unfold wgt; rw [if_neg (by omega)])
    rw [e0, e0] at a3
    have z0 : ∀ f : Nat → Nat, smN (cnO C c 0) f 16 = 0 := by
      intro f
      have : ∀ n, smN (cnO C c 0) f n = 0 := by
        intro n
        induction n with
        | zero => rfl
        | succ n ih => unfold smN; rw [ih, cnO]; omega
      exact this 16
    rw [z0, z0, e00, ← L0] at a3
    have hu12 := fun s => uN_le (C := C) (ln := lnH h 9) (rt := rt) (en := en) (T := TH h 9) (S := SH h 9) hR hE s
    have bnd1 : ∀ f : Nat → Nat, (∀ s, f s ≤ 12) → smN (wgt C c) f (2 ^ C) ≤ 16 * (24 * 12) := by
      intro f hf
      have e1 : smN (wgt C c) f (2 ^ C) = smN (fun s => if s < 16 then wgt C c s else 0) f (2 ^ C) := smN_cg _ (fun s hs => by rw [if_pos (by omega)])
      rw [e1]
      have := smN_le (a := fun s => if s < 16 then wgt C c s else 0) (f := f) (m := 12) (fun s => by
        show (if s < 16 then wgt C c s else 0) ≤ 24
        split
        · rename_i hs; exact wgt_le C hC c (by omega) s hs
        · omega) hf (2 ^ C)
      exact Nat.le_trans this (Nat.mul_le_mul_right _ h16.1)
    have bP := bnd1 (fun s => uN_ C R E (lnH h 9) rt en (TH h 9) (SH h 9) (s ||| 2 ^ c)) (fun s => hu12 _)
    have bN := bnd1 (uN_ C R E (lnH h 9) rt en (TH h 9) (SH h 9)) hu12
    generalize smN (wgt C c) (fun s => uN_ C R E (lnH h 9) rt en (TH h 9) (SH h 9) (s ||| 2 ^ c)) (2 ^ C) = PP at a1 a3 bP
    generalize smN (wgt C c) (uN_ C R E (lnH h 9) rt en (TH h 9) (SH h 9)) (2 ^ C) = NN at a1 a3 bN
    have hv : nI PP - nI NN = nI (if NN ≤ PP then PP - NN else NN - PP) ∨ nI PP - nI NN = -nI (if NN ≤ PP then PP - NN else NN - PP) := by
      by_cases q2 : NN ≤ PP
      · rw [if_pos q2]; exact Or.inl (pk_sub q2)
      · rw [if_neg q2]
        right
        rw [← pk_sub (show PP ≤ NN by omega), Int32.neg_sub]
    have hA : (if NN ≤ PP then PP - NN else NN - PP) < 2 ^ 31 := by split <;> omega
    have hfc := fcn_in C hC
    obtain ⟨r, x1, x2⟩ := frac_any hA hv hfc.1 hfc.2 up
    refine ⟨r, sA h 13 g1, sA (sA (sA h 13 g1) 57 g2) 58 f2, ?_, ?_, Rel_Sc H0 (Sc_tr (Sc_A h g1 (by decide)) (Sc_tr (Sc_A _ g2 (by decide)) (Sc_A _ f2 (by decide))))⟩
    · unfold f_X6_share
      rw [R0_2, p_hasChange K, bnd_s, ifb, if_pos q, K.2.2.1, ← x1, ← a1]
    · unfold f_X7_share
      rw [p_isChange M1, bnd_s, ifb, if_pos q, a2, ← x2, ← a3]
  · refine St_ro H0 (r := -1) ?_ ?_
    · unfold f_X6_share
      rw [R0_2, p_hasChange K, bnd_s, ifb, if_neg q]
    · unfold f_X7_share
      rw [p_isChange M, bnd_s, ifb, if_neg q]
