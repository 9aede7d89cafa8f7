/-! numbers -/
theorem L0 : (0 : Int32) = nI 0 := rfl
theorem L1 : (1 : Int32) = nI 1 := rfl
theorem L2 : (2 : Int32) = nI 2 := rfl
theorem L3 : (3 : Int32) = nI 3 := rfl
theorem L4 : (4 : Int32) = nI 4 := rfl
theorem L5 : (5 : Int32) = nI 5 := rfl
theorem L6 : (6 : Int32) = nI 6 := rfl
theorem L10 : (10 : Int32) = nI 10 := rfl
theorem L12 : (12 : Int32) = nI 12 := rfl
theorem L14 : (14 : Int32) = nI 14 := rfl
theorem L15 : (15 : Int32) = nI 15 := rfl
theorem L20 : (20 : Int32) = nI 20 := rfl
theorem L25 : (25 : Int32) = nI 25 := rfl
theorem L32 : (32 : Int32) = nI 32 := rfl
theorem L60 : (60 : Int32) = nI 60 := rfl
theorem L100 : (100 : Int32) = nI 100 := rfl
theorem L255 : (255 : Int32) = nI 255 := rfl
theorem L5m : (555555 : Int32) = nI 555555 := rfl
theorem okI_n {j n : Nat} (h : j < n) (hn : n < 2 ^ 31) : okI (nI j) n = true := by
  unfold okI
  exact decide_eq_true (vp_in_nI h hn)
theorem okI_t {j n : Nat} (h : j < n) (hn : n < 2 ^ 31) : (okI (nI j) n = true) = True := eq_true (okI_n h hn)
theorem itT {α : Type} {c : Prop} {_ : Decidable c} {a b : α} (h : c) : (if c then a else b) = a := if_pos h
theorem itF {α : Type} {c : Prop} {_ : Decidable c} {a b : α} (h : ¬ c) : (if c then a else b) = b := if_neg h
theorem bnd_s {α β : Type} (v : α) (h : Hp) (f : α → Hp → Option β) : bnd (some (v, h)) f = f v h := rfl
theorem bind_s {α β : Type} (v : α) (f : α → Option β) : (some v).bind f = f v := rfl
theorem okZ_0 : (okZ 0 = true) = True := by decide
theorem okZ_1 : (okZ 1 = true) = True := by decide
def b01 (b : Bool) : Int32 := if b = true then 1 else 0
theorem okZ_b (b : Bool) : (okZ (b01 b) = true) = True := by cases b <;> decide
theorem b01_0 (b : Bool) : (b01 b = 0) = (b = false) := by cases b <;> decide
theorem b01_1 (b : Bool) : (b01 b = 1) = (b = true) := by cases b <;> decide
theorem ifb {α : Type} (b : Bool) {x y : α} : (if b01 b = 0 then x else y) = if b = true then y else x := by cases b <;> rfl
theorem ifb1 {α : Type} (b : Bool) {x y : α} : (if b01 b = 1 then x else y) = if b = true then x else y := by cases b <;> rfl
/-! a change goes over a word -/
def fitB (sg nb : Int32) : Bool := if sg = 6 then true else if sg = 7 then decide (nb = 0) else decide (nb = sg)
theorem p_fits5 (sg nb : Int32) (h : Hp) : f_X5_fits sg nb h = some (b01 (fitB sg nb), h) := by
  unfold f_X5_fits g_X5_fits_20 fitB b01
  by_cases h6 : sg = 6
  · simp [h6]
  · by_cases h7 : sg = 7
    · by_cases h0 : nb = 0 <;> simp [h7, h0]
    · by_cases h0 : nb = sg <;> simp [h6, h7, h0]
theorem p_fits7 (sg nb : Int32) (h : Hp) : f_X7_fits sg nb h = some (b01 (fitB sg nb), h) := by
  unfold f_X7_fits fitB b01
  by_cases h6 : sg = 6
  · simp [h6]
  · by_cases h7 : sg = 7
    · by_cases h0 : nb = 0 <;> simp [h7, h0]
    · by_cases h0 : nb = sg <;> simp [h6, h7, h0]
def gB (fr ah be : Int32) (t rest nx : Nat) : Nat := if nI (rest % 10) = fr ∧ fitB ah (nI (rest / 10 % 10)) = true ∧ fitB be (nI nx) = true then t else rest % 10
def gN (fr ah be : Int32) (t : Nat) : Nat → Nat → Nat → Nat → Nat → Nat
  | 0, _, _, res, _ => res
  | k + 1, rest, nx, res, wr => if rest = 0 then res else gN fr ah be t k (rest / 10) (rest % 10) (res + gB fr ah be t rest nx * wr) (if gB fr ah be t rest nx = 0 then wr else wr * 10)
theorem gB_lt {fr ah be : Int32} {t rest nx : Nat} (ht : t < 10) : gB fr ah be t rest nx < 10 := by
  unfold gB
  split
  · exact ht
  · omega
theorem gN_0 (fr ah be : Int32) (t : Nat) : ∀ (k nx res wr : Nat), gN fr ah be t k 0 nx res wr = res
  | 0, _, _, _ => rfl
  | _ + 1, _, _, _ => rfl
theorem gN_lt {fr ah be : Int32} {t : Nat} (ht : t < 10) : ∀ (k rest nx res wr : Nat), res < wr → gN fr ah be t k rest nx res wr < wr * 10 ^ k := by
  intro k
  induction k with
  | zero => intro rest nx res wr h; simpa [gN] using h
  | succ k ih =>
    intro rest nx res wr h
    unfold gN
    have h1 : wr * 10 ^ (k + 1) = 10 * (wr * 10 ^ k) := by rw [Nat.pow_succ]; simp only [Nat.mul_assoc, Nat.mul_comm, Nat.mul_left_comm]
    have h0 : 0 < 10 ^ k := Nat.pow_pos (by decide)
    have h2 : wr ≤ wr * 10 ^ k := Nat.le_mul_of_pos_right _ h0
    by_cases hr : rest = 0
    · rw [if_pos hr]; omega
    · rw [if_neg hr]
      have hb := gB_lt (fr := fr) (ah := ah) (be := be) (rest := rest) (nx := nx) ht
      by_cases h9 : gB fr ah be t rest nx = 0
      · rw [if_pos h9, h9]
        have := ih (rest / 10) (rest % 10) (res + 0 * wr) wr (by omega)
        omega
      · rw [if_neg h9]
        have h3 : res + gB fr ah be t rest nx * wr < wr * 10 := by
          have : gB fr ah be t rest nx * wr ≤ 9 * wr := Nat.mul_le_mul_right _ (by omega)
          omega
        have := ih (rest / 10) (rest % 10) _ _ h3
        have h4 : wr * 10 * 10 ^ k = 10 * (wr * 10 ^ k) := by rw [Nat.mul_comm wr 10, Nat.mul_assoc]
        omega
def chg (fr ah be : Int32) (t w : Nat) : Nat := gN fr ah be t 6 w 0 0 1
theorem chg_lt {fr ah be : Int32} {t w : Nat} (ht : t < 10) : chg fr ah be t w < 1000000 := by
  have := gN_lt (fr := fr) (ah := ah) (be := be) ht 6 w 0 0 1 (by decide)
  unfold chg
  omega
/-! the class's changes -/
def isW (a : Nat) : Prop := a = 9 ∨ a = 14
theorem isW_r {a : Nat} (h : isW a) : rF a 0 = 6 ∧ rF a 1 = a + 1 ∧ rF a 2 = a + 2 ∧ rF a 3 = a + 3 ∧ rF a 4 = a + 4 ∧ lN_ (a + 1) = 16 ∧ lN_ (a + 2) = 4 ∧ lN_ (a + 3) = 12 ∧ lN_ (a + 4) = 12 := by
  rcases h with rfl | rfl <;> decide
def WK (h : Hp) (a C : Nat) (ln : Nat → Nat) (S : Nat → Nat → Int32) (T : Nat → Nat) : Prop := isW a ∧ C ≤ 4 ∧ h.1 a 5 = nI C ∧ (∀ j, j < C → h.1 (a + 2) j = nI (ln j) ∧ ln j < C) ∧ (∀ c k, c < C → k < 4 → h.1 (a + 1) (c * 4 + k) = S c k) ∧ (∀ c, c < C → S c 1 = nI (T c) ∧ T c < 10)
theorem p_signOf {h : Hp} {a C : Nat} {ln : Nat → Nat} {S : Nat → Nat → Int32} {T : Nat → Nat} (K : WK h a C ln S T) {c k : Nat} (hc : c < C) (hk : k < 4) : f_X4_signOf a (nI c) (nI k) h = some (S c k, h) := by
  obtain ⟨ha, hC, -, -, hS, -⟩ := K
  obtain ⟨-, r1, -, -, -, l1, -⟩ := isW_r ha
  unfold f_X4_signOf
  rw [r1, l1, L4, pk_mul, nI_add, if_pos (okI_n (by omega) (by decide)), nI_clamp (by omega), hS c k hc hk]
theorem p_goOverL {h : Hp} {a C : Nat} {ln : Nat → Nat} {S : Nat → Nat → Int32} {T : Nat → Nat} (K : WK h a C ln S T) {c : Nat} (hc : c < C) (w : Int32) : ∀ (k n rest nx res wr i : Nat), k < n → i + k = 6 → rest < 10 ^ k → nx < 10 →
    f_X4_goOver_22 a (nI c) w n (S c 0) (nI res) (nI wr) (nI nx) (nI rest) (nI i) h = some (nI (gN (S c 0) (S c 2) (S c 3) (T c) k rest nx res wr), h) := by
  intro k
  induction k with
  | zero =>
    intro n rest nx res wr i hn hi hr hx
    obtain ⟨n, rfl⟩ : ∃ m, n = m + 1 := ⟨n - 1, by omega⟩
    rw [s_X4_goOver_22]
    unfold g_X4_goOver_22
    rw [L6, if_pos (by rw [nI_leI (by omega) (by omega)]; omega)]
    rfl
  | succ k ih =>
    intro n rest nx res wr i hn hi hr hx
    obtain ⟨n, rfl⟩ : ∃ m, n = m + 1 := ⟨n - 1, by omega⟩
    have hk6 : 10 ^ (k + 1) ≤ 10 ^ 6 := Nat.pow_le_pow_right (by decide) (by omega)
    have hpk : 10 ^ (k + 1) = 10 ^ k * 10 := Nat.pow_succ ..
    have hT := (K.2.2.2.2.2 c hc)
    rw [s_X4_goOver_22]
    unfold g_X4_goOver_22
    rw [L6, if_neg (by rw [nI_leI (by omega) (by omega)]; omega)]
    unfold gN
    by_cases h0 : rest = 0
    · rw [if_pos h0, L0, if_pos (by rw [nI_leI (by omega) (by omega)]; omega)]
    · rw [if_neg h0]
      have e1 : (nI rest ≤ (0 : Int32)) = False := eq_false (by rw [L0, nI_leI (by omega) (by omega)]; omega)
      rw [if_neg (by rw [e1]; exact id)]
      rw [L10, pk_rem (by omega) (by decide) (by decide), pk_div (by omega) (by decide) (by decide), pk_rem (by omega) (by decide) (by decide)]
      have go : ∀ b : Nat, b < 10 → (g_X4_goOver_108 a (nI c) w (f_X4_goOver_22 a (nI c) w n) (S c 0) (nI res) (nI wr) (nI (rest / 10)) (nI i) (nI (rest % 10)) (nI b) h) = some (nI (gN (S c 0) (S c 2) (S c 3) (T c) k (rest / 10) (rest % 10) (res + b * wr) (if b = 0 then wr else wr * 10)), h) := by
        intro b hb
        unfold g_X4_goOver_108 g_X4_goOver_132
        by_cases hb0 : b = 0
        · subst hb0
          rw [if_pos (by rfl), L1, nI_add, ih n _ _ _ _ _ (by omega) (by omega) (by omega) (by omega), if_pos rfl, Nat.zero_mul, Nat.add_zero]
        · rw [if_neg (by rw [L0, nI_eq (by omega) (by omega)]; exact hb0), L1, L10, pk_mul, pk_mul, nI_add, nI_add, ih n _ _ _ _ _ (by omega) (by omega) (by omega) (by omega), if_neg hb0]
      have s0 : g_X4_goOver_89 a (nI c) w (f_X4_goOver_22 a (nI c) w n) (S c 0) (nI res) (nI wr) (nI (rest / 10)) (nI i) (nI (rest % 10)) h = some (nI (gN (S c 0) (S c 2) (S c 3) (T c) k (rest / 10) (rest % 10) (res + (rest % 10) * wr) (if rest % 10 = 0 then wr else wr * 10)), h) := by
        unfold g_X4_goOver_89 g_X4_goOver_90
        rw [if_pos rfl]
        exact go _ (by omega)
      have s1 : g_X4_goOver_90 a (nI c) w (f_X4_goOver_22 a (nI c) w n) (S c 0) (nI res) (nI wr) (nI (rest / 10)) (nI i) (nI (rest % 10)) 1 h = some (nI (gN (S c 0) (S c 2) (S c 3) (T c) k (rest / 10) (rest % 10) (res + (T c) * wr) (if T c = 0 then wr else wr * 10)), h) := by
        unfold g_X4_goOver_90
        rw [if_neg (by decide), L1, p_signOf K hc (by decide), bnd_s, hT.1]
        exact go _ hT.2
      unfold gB
      by_cases q0 : nI (rest % 10) = S c 0
      · rw [if_pos q0, L2, p_signOf K hc (by decide), bnd_s, p_fits5, bnd_s, ifb]
        by_cases q1 : fitB (S c 2) (nI (rest / 10 % 10)) = true
        · rw [if_pos q1, L3, p_signOf K hc (by decide), bnd_s, p_fits5, bnd_s, ifb]
          by_cases q2 : fitB (S c 3) (nI nx) = true
          · rw [if_pos q2, if_pos ⟨q0, q1, q2⟩]
            exact s1
          · rw [if_neg q2, if_neg (fun z => q2 z.2.2)]
            exact s0
        · rw [if_neg q1, if_neg (fun z => q1 z.2.1)]
          exact s0
      · rw [if_neg q0, if_neg (fun z => q0 z.1)]
        exact s0
theorem p_goOver {h : Hp} {a C : Nat} {ln : Nat → Nat} {S : Nat → Nat → Int32} {T : Nat → Nat} (K : WK h a C ln S T) {c w : Nat} (hc : c < C) (hw : w < 1000000) : f_X4_goOver a (nI c) (nI w) h = some (nI (chg (S c 0) (S c 2) (S c 3) (T c) w), h) := by
  unfold f_X4_goOver
  rw [L0, p_signOf K hc (by decide), bnd_s, L1]
  exact p_goOverL K hc _ 6 FU w 0 0 1 0 (by decide) rfl (by omega) (by omega)
/-! the reference's changes -/
def isR (r : Nat) : Prop := r = 43 ∨ r = 44
theorem isR_l {r : Nat} (h : isR r) : lN_ r = 32 := by rcases h with rfl | rfl <;> decide
def MK (h : Hp) (r C : Nat) (ln : Nat → Nat) (S : Nat → Nat → Int32) (T : Nat → Nat) : Prop := isR r ∧ C ≤ 4 ∧ h.1 41 13 = nI C ∧ (∀ j, j < C → h.1 r j = nI (ln j) ∧ ln j < C) ∧ (∀ c k, c < C → k < 4 → h.1 r (4 + 4 * c + k) = S c k) ∧ (∀ c, c < C → S c 1 = nI (T c) ∧ T c < 10)
theorem p_changedL {h : Hp} {r C : Nat} {ln : Nat → Nat} {S : Nat → Nat → Int32} {T : Nat → Nat} (K : MK h r C ln S T) {c : Nat} (hc : c < C) (w cc : Int32) : ∀ (k n rest nx res wr : Nat), k < n → rest < 10 ^ k → k ≤ 6 → nx < 10 →
    f_X7_changed_18 r cc w n (nI (4 + 4 * c)) (nI res) (nI wr) (nI nx) (nI rest) h = some (nI (gN (S c 0) (S c 2) (S c 3) (T c) k rest nx res wr), h) := by
  intro k
  induction k with
  | zero =>
    intro n rest nx res wr hn hr hk hx
    obtain ⟨n, rfl⟩ : ∃ m, n = m + 1 := ⟨n - 1, by omega⟩
    rw [s_X7_changed_18]
    unfold g_X7_changed_18
    rw [L0, if_pos (by rw [nI_leI (by omega) (by omega)]; omega)]
    rfl
  | succ k ih =>
    intro n rest nx res wr hn hr hk hx
    obtain ⟨n, rfl⟩ : ∃ m, n = m + 1 := ⟨n - 1, by omega⟩
    have hk6 : 10 ^ (k + 1) ≤ 10 ^ 6 := Nat.pow_le_pow_right (by decide) (by omega)
    have hpk : 10 ^ (k + 1) = 10 ^ k * 10 := Nat.pow_succ ..
    obtain ⟨hR, hC, -, -, hS, hT⟩ := K
    have lr := isR_l hR
    have hS0 : h.1 r (4 + 4 * c) = S c 0 := hS c 0 hc (by decide)
    have hS1 : h.1 r (4 + 4 * c + 1) = S c 1 := hS c 1 hc (by decide)
    have hS2 : h.1 r (4 + 4 * c + 2) = S c 2 := hS c 2 hc (by decide)
    have hS3 : h.1 r (4 + 4 * c + 3) = S c 3 := hS c 3 hc (by decide)
    have hT := hT c hc
    rw [s_X7_changed_18]
    unfold g_X7_changed_18
    unfold gN
    by_cases h0 : rest = 0
    · rw [if_pos h0, L0, if_pos (by rw [nI_leI (by omega) (by omega)]; omega)]
    · rw [if_neg h0]
      rw [if_neg (show ¬ nI rest ≤ (0 : Int32) by rw [L0, nI_leI (by omega) (by omega)]; omega)]
      rw [L10, L2, L3, pk_rem (by omega) (by decide) (by decide), pk_div (by omega) (by decide) (by decide), pk_rem (by omega) (by decide) (by decide), nI_add, nI_add, lr, if_pos (okI_n (by omega) (by decide)), nI_clamp (by omega), hS0]
      have go : ∀ b : Nat, b < 10 → (g_X7_changed_92 r cc w (f_X7_changed_18 r cc w n) (nI (4 + 4 * c)) (nI res) (nI wr) (nI rest) (nI (rest % 10)) (nI b) h) = some (nI (gN (S c 0) (S c 2) (S c 3) (T c) k (rest / 10) (rest % 10) (res + b * wr) (if b = 0 then wr else wr * 10)), h) := by
        intro b hb
        unfold g_X7_changed_92 g_X7_changed_117
        by_cases hb0 : b = 0
        · subst hb0
          rw [if_pos (by rfl), L1, L10, pk_mul, pk_mul, nI_add, pk_div (by omega) (by decide) (by decide), ih n _ _ _ _ (by omega) (by omega) (by omega) (by omega), if_pos rfl, Nat.mul_comm wr 0, Nat.mul_one]
        · rw [if_neg (by rw [L0, nI_eq (by omega) (by omega)]; exact hb0), L10, pk_mul, pk_mul, nI_add, pk_div (by omega) (by decide) (by decide), ih n _ _ _ _ (by omega) (by omega) (by omega) (by omega), if_neg hb0, Nat.mul_comm wr b]
      have s0 : g_X7_changed_74 r cc w (f_X7_changed_18 r cc w n) (nI (4 + 4 * c)) (nI res) (nI wr) (nI rest) (nI (rest % 10)) h = some (nI (gN (S c 0) (S c 2) (S c 3) (T c) k (rest / 10) (rest % 10) (res + (rest % 10) * wr) (if rest % 10 = 0 then wr else wr * 10)), h) := by
        unfold g_X7_changed_74 g_X7_changed_75
        rw [if_pos rfl]
        exact go _ (by omega)
      have s1 : g_X7_changed_75 r cc w (f_X7_changed_18 r cc w n) (nI (4 + 4 * c)) (nI res) (nI wr) (nI rest) (nI (rest % 10)) 1 h = some (nI (gN (S c 0) (S c 2) (S c 3) (T c) k (rest / 10) (rest % 10) (res + (T c) * wr) (if T c = 0 then wr else wr * 10)), h) := by
        unfold g_X7_changed_75
        rw [if_neg (by decide), L1, nI_add, lr, if_pos (okI_n (by omega) (by decide)), nI_clamp (by omega), hS1, hT.1]
        exact go _ hT.2
      unfold gB
      by_cases q0 : nI (rest % 10) = S c 0
      · rw [if_pos q0, if_pos (okI_n (by omega) (by decide)), nI_clamp (by omega), hS2, p_fits7, bnd_s, ifb]
        by_cases q1 : fitB (S c 2) (nI (rest / 10 % 10)) = true
        · rw [if_pos q1, if_pos (okI_n (by omega) (by decide)), nI_clamp (by omega), hS3, p_fits7, bnd_s, ifb]
          by_cases q2 : fitB (S c 3) (nI nx) = true
          · rw [if_pos q2, if_pos ⟨q0, q1, q2⟩]
            exact s1
          · rw [if_neg q2, if_neg (fun z => q2 z.2.2)]
            exact s0
        · rw [if_neg q1, if_neg (fun z => q1 z.2.1)]
          exact s0
      · rw [if_neg q0, if_neg (fun z => q0 z.1)]
        exact s0
theorem p_changed {h : Hp} {r C : Nat} {ln : Nat → Nat} {S : Nat → Nat → Int32} {T : Nat → Nat} (K : MK h r C ln S T) {c w : Nat} (hc : c < C) (hw : w < 1000000) : f_X7_changed r (nI c) (nI w) h = some (nI (chg (S c 0) (S c 2) (S c 3) (T c) w), h) := by
  unfold f_X7_changed
  rw [L4, pk_mul, nI_add, L0, L1]
  exact p_changedL K hc _ _ 6 FU w 0 0 1 (by decide) (by omega) (by decide) (by omega)
/-! words of sets of changes -/
def cgW (S : Nat → Nat → Int32) (T : Nat → Nat) (c w : Nat) : Nat := chg (S c 0) (S c 2) (S c 3) (T c) w
def wlk (ln : Nat → Nat) (S : Nat → Nat → Int32) (T : Nat → Nat) (set : Nat) : Nat → Nat → Nat
  | 0, w => w
  | p + 1, w => if set.testBit (ln p) = true then cgW S T (ln p) (wlk ln S T set p w) else wlk ln S T set p w
theorem wlk_s (ln : Nat → Nat) (S : Nat → Nat → Int32) (T : Nat → Nat) (set p w : Nat) : wlk ln S T set (p + 1) w = if set.testBit (ln p) = true then cgW S T (ln p) (wlk ln S T set p w) else wlk ln S T set p w := rfl
theorem wlk_lt {ln : Nat → Nat} {S : Nat → Nat → Int32} {T : Nat → Nat} {set C : Nat} (hT : ∀ j, j < C → T (ln j) < 10) : ∀ (p w : Nat), p ≤ C → w < 1000000 → wlk ln S T set p w < 1000000
  | 0, w, _, h => h
  | p + 1, w, hp, h => by
    unfold wlk
    split
    · exact chg_lt (hT p (by omega))
    · exact wlk_lt hT p w (by omega) h
theorem bit15 : ∀ j, j < 4 → (15 : Nat).testBit j = true := by decide
theorem bit_c : ∀ set, set < 16 → ∀ j, j < 4 → ((nI set &&& (1 <<< (nI j &&& 31))) = 0 ↔ set.testBit j = false) := by decide +kernel
theorem bit_m : ∀ set, set < 16 → ∀ j, j < 4 → (((nI set >>> (nI j &&& 31)) &&& 1) = 1 ↔ set.testBit j = true) := by decide +kernel
theorem p_walkL {h : Hp} {a C : Nat} {ln : Nat → Nat} {S : Nat → Nat → Int32} {T : Nat → Nat} (K : WK h a C ln S T) (x : Int32) {w P : Nat} (hw : w < 1000000) (hP : P ≤ C) : ∀ (d n p : Nat), d < n → p + d = P → f_X4_walk_5 a x (nI P) n (nI (wlk ln S T 15 p w)) (nI p) h = some (nI (wlk ln S T 15 P w), h) := by
  have K0 := K
  obtain ⟨ha, hC, -, hl, -, hT⟩ := K
  obtain ⟨-, -, r2, -, -, -, l2, -⟩ := isW_r ha
  have hT' : ∀ j, j < C → T (ln j) < 10 := fun j hj => (hT _ (hl j hj).2).2
  intro d
  induction d with
  | zero =>
    intro n p hn hp
    obtain ⟨n, rfl⟩ : ∃ m, n = m + 1 := ⟨n - 1, by omega⟩
    rw [s_X4_walk_5]
    unfold g_X4_walk_5
    rw [if_pos (by rw [nI_leI (by omega) (by omega)]; omega), show p = P by omega]
  | succ d ih =>
    intro n p hn hp
    obtain ⟨n, rfl⟩ : ∃ m, n = m + 1 := ⟨n - 1, by omega⟩
    rw [s_X4_walk_5]
    unfold g_X4_walk_5
    rw [if_neg (by rw [nI_leI (by omega) (by omega)]; omega), r2, l2, if_pos (okI_n (by omega) (by decide)), nI_clamp (by omega), (hl p (by omega)).1, p_goOver K0 (hl p (by omega)).2 (wlk_lt hT' p w (by omega) hw), bnd_s, L1, nI_add]
    have i2 := ih n (p + 1) (by omega) (by omega)
    rw [wlk_s, if_pos (bit15 _ (by have := (hl p (by omega)).2; omega))] at i2
    exact i2
theorem p_walk {h : Hp} {a C : Nat} {ln : Nat → Nat} {S : Nat → Nat → Int32} {T : Nat → Nat} (K : WK h a C ln S T) {w P : Nat} (hw : w < 1000000) (hP : P ≤ C) : f_X4_walk a (nI w) (nI P) h = some (nI (wlk ln S T 15 P w), h) := by
  unfold f_X4_walk
  rw [L0]
  exact p_walkL K _ hw hP P FU 0 (by have := K.2.1; unfold FU; omega) (by omega)
theorem p_walkWithL {h : Hp} {a C : Nat} {ln : Nat → Nat} {S : Nat → Nat → Int32} {T : Nat → Nat} (K : WK h a C ln S T) (x : Int32) {w set : Nat} (hw : w < 1000000) (hs : set < 16) : ∀ (d n p : Nat), d < n → p + d = C → f_X4_walkWith_5 a x (nI set) n (nI (wlk ln S T set p w)) (nI p) h = some (nI (wlk ln S T set C w), h) := by
  have K0 := K
  obtain ⟨ha, hC, hc5, hl, -, hT⟩ := K
  obtain ⟨-, -, r2, -, -, -, l2, -⟩ := isW_r ha
  have hT' : ∀ j, j < C → T (ln j) < 10 := fun j hj => (hT _ (hl j hj).2).2
  intro d
  induction d with
  | zero =>
    intro n p hn hp
    obtain ⟨n, rfl⟩ : ∃ m, n = m + 1 := ⟨n - 1, by omega⟩
    rw [s_X4_walkWith_5]
    unfold g_X4_walkWith_5
    rw [hc5, if_pos (by rw [nI_leI (by omega) (by omega)]; omega), show p = C by omega]
  | succ d ih =>
    intro n p hn hp
    obtain ⟨n, rfl⟩ : ∃ m, n = m + 1 := ⟨n - 1, by omega⟩
    have hlp := hl p (by omega)
    have hb := bit_c set hs (ln p) (by omega)
    have i2 := ih n (p + 1) (by omega) (by omega)
    rw [wlk_s] at i2
    rw [s_X4_walkWith_5]
    unfold g_X4_walkWith_5 g_X4_walkWith_41
    rw [hc5, if_neg (by rw [nI_leI (by omega) (by omega)]; omega), r2, l2, if_pos (okI_n (by omega) (by decide)), nI_clamp (by omega), hlp.1]
    by_cases q : set.testBit (ln p) = true
    · rw [if_neg (by rw [hb, q]; decide), if_pos (okI_n (by omega) (by decide)), p_goOver K0 hlp.2 (wlk_lt hT' p w (by omega) hw), bnd_s, L1, nI_add]
      rw [if_pos q] at i2
      exact i2
    · rw [if_pos (by rw [hb]; simpa using q), L1, nI_add]
      rw [if_neg q] at i2
      exact i2
theorem p_walkWith {h : Hp} {a C : Nat} {ln : Nat → Nat} {S : Nat → Nat → Int32} {T : Nat → Nat} (K : WK h a C ln S T) {w set : Nat} (hw : w < 1000000) (hs : set < 16) : f_X4_walkWith a (nI w) (nI set) h = some (nI (wlk ln S T set C w), h) := by
  unfold f_X4_walkWith
  rw [L0]
  exact p_walkWithL K _ hw hs C FU 0 (by have := K.2.1; unfold FU; omega) (by omega)
theorem p_has {set j : Nat} (hs : set < 16) (hj : j < 4) (h : Hp) : f_X7_has (nI set) (nI j) h = some (b01 (set.testBit j), h) := by
  unfold f_X7_has b01
  have := bit_m set hs j hj
  by_cases q : set.testBit j = true
  · rw [if_pos (this.mpr q), if_pos q]
  · rw [if_neg (fun z => q (this.mp z)), if_neg q]
theorem p_behindL {h : Hp} {r C : Nat} {ln : Nat → Nat} {S : Nat → Nat → Int32} {T : Nat → Nat} (K : MK h r C ln S T) (x : Int32) {w set P : Nat} (hw : w < 1000000) (hs : set < 16) (hP : P ≤ C) : ∀ (d n p : Nat), d < n → p + d = P → f_X7_behindAll_6 r x (nI P) (nI set) n (nI (wlk ln S T set p w)) (nI p) h = some (nI (wlk ln S T set P w), h) := by
  have K0 := K
  obtain ⟨ha, hC, hc5, hl, -, hT⟩ := K
  have l2 := isR_l ha
  have hT' : ∀ j, j < C → T (ln j) < 10 := fun j hj => (hT _ (hl j hj).2).2
  intro d
  induction d with
  | zero =>
    intro n p hn hp
    obtain ⟨n, rfl⟩ : ∃ m, n = m + 1 := ⟨n - 1, by omega⟩
    rw [s_X7_behindAll_6]
    unfold g_X7_behindAll_6
    rw [if_pos (by rw [nI_leI (by omega) (by omega)]; omega), show p = P by omega]
  | succ d ih =>
    intro n p hn hp
    obtain ⟨n, rfl⟩ : ∃ m, n = m + 1 := ⟨n - 1, by omega⟩
    have hlp := hl p (by omega)
    have i2 := ih n (p + 1) (by omega) (by omega)
    rw [wlk_s] at i2
    rw [s_X7_behindAll_6]
    unfold g_X7_behindAll_6 g_X7_behindAll_38
    rw [if_neg (by rw [nI_leI (by omega) (by omega)]; omega), l2, if_pos (okI_n (by omega) (by decide)), nI_clamp (by omega), hlp.1, p_has hs (by omega), bnd_s, ifb]
    by_cases q : set.testBit (ln p) = true
    · rw [if_pos q, if_pos (okI_n (by omega) (by decide)), hlp.1, p_changed K0 hlp.2 (wlk_lt hT' p w (by omega) hw), bnd_s, L1, nI_add]
      rw [if_pos q] at i2
      exact i2
    · rw [if_neg q, L1, nI_add]
      rw [if_neg q] at i2
      exact i2
theorem p_behind {h : Hp} {r C : Nat} {ln : Nat → Nat} {S : Nat → Nat → Int32} {T : Nat → Nat} (K : MK h r C ln S T) {w set P : Nat} (hw : w < 1000000) (hs : set < 16) (hP : P ≤ C) : f_X7_behindAll r (nI w) (nI P) (nI set) h = some (nI (wlk ln S T set P w), h) := by
  unfold f_X7_behindAll
  rw [L0]
  exact p_behindL K _ hw hs hP P FU 0 (by have := K.2.1; unfold FU; omega) (by omega)
