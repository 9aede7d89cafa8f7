theorem sA_at (h : Hp) (i : Nat) (f : Nat → Int32) : (sA h i f).1 i = f := by simp [sA]
theorem sA_ne (h : Hp) {i j : Nat} (f : Nat → Int32) (hj : j ≠ i) : (sA h i f).1 j = h.1 j := by simp [sA, hj]
theorem sA_l (h : Hp) (i : Nat) (f : Nat → Int32) : (sA h i f).2 = h.2 := rfl
theorem sI_sA (h : Hp) (i k : Nat) (f : Nat → Int32) (v : Int32) : sI (sA h i f) i k v = sA h i (upd f k v) := by
  unfold sI
  rw [sA_at]
  unfold sA
  congr 1
  funext a
  by_cases q : a = i <;> simp [q]
theorem sA_sA (h : Hp) (i : Nat) (f g : Nat → Int32) : sA (sA h i f) i g = sA h i g := by
  unfold sA
  congr 1
  funext a
  by_cases q : a = i <;> simp [q]
theorem sA_self (h : Hp) (i : Nat) : sA h i (h.1 i) = h := by
  unfold sA
  cases h
  congr 1
  funext a
  by_cases q : a = i <;> simp [q]
section SETS
variable {h : Hp} {a r C R E set : Nat} {ln rt en T : Nat → Nat} {S : Nat → Nat → Int32} {fm : Nat → Int32}
theorem WK.sA (K : WK h a C ln S T) {i : Nat} (f : Nat → Int32) (h0 : a ≠ i) (h1 : a + 1 ≠ i) (h2 : a + 2 ≠ i) : WK (sA h i f) a C ln S T := by
  unfold WK
  rw [sA_ne h f h0, sA_ne h f h1, sA_ne h f h2]
  exact K
theorem SK.sA (K : SK h R E rt en) {i : Nat} (f : Nat → Int32) (h0 : 6 ≠ i) (h1 : 7 ≠ i) (h2 : 8 ≠ i) : SK (sA h i f) R E rt en := by
  unfold SK
  rw [sA_ne h f h0, sA_ne h f h1, sA_ne h f h2]
  exact K
theorem MK.sA (K : MK h r C ln S T) {i : Nat} (f : Nat → Int32) (h0 : r ≠ i) (h1 : 41 ≠ i) : MK (sA h i f) r C ln S T := by
  unfold MK
  rw [sA_ne h f h0, sA_ne h f h1]
  exact K
theorem NK.sA (K : NK h R E rt en) {i : Nat} (f : Nat → Int32) (h0 : 41 ≠ i) (h1 : 48 ≠ i) (h2 : 49 ≠ i) : NK (sA h i f) R E rt en := by
  unfold NK
  rw [sA_ne h f h0, sA_ne h f h1, sA_ne h f h2]
  exact K
/-! unlike words -/
theorem gd_l {l m : List Nat} {j : Nat} (h : j < l.length) : (l ++ m).getD j 0 = l.getD j 0 := by
  rw [List.getD_eq_getElem?_getD, List.getD_eq_getElem?_getD, List.getElem?_append_left h]
theorem gd_r {l : List Nat} {w : Nat} : (l ++ [w]).getD l.length 0 = w := by
  rw [List.getD_eq_getElem?_getD]; simp
def anyE (acc : List Nat) (w : Nat) : Nat → Bool
  | 0 => false
  | e + 1 => anyE acc w e || decide (acc.getD e 0 = w)
def stp (acc : List Nat) (w : Nat) : List Nat := if anyE acc w acc.length = true then acc else acc ++ [w]
def acN (wd : Nat → Nat) : Nat → List Nat
  | 0 => []
  | k + 1 => stp (acN wd k) (wd k)
theorem acN_len (wd : Nat → Nat) : ∀ k, (acN wd k).length ≤ k
  | 0 => Nat.le_refl _
  | k + 1 => by
    have := acN_len wd k
    unfold acN stp
    split
    · omega
    · simp; omega
theorem acN_lt {wd : Nat → Nat} : ∀ k, (∀ j, j < k → wd j < 1000000) → ∀ j, j < (acN wd k).length → (acN wd k).getD j 0 < 1000000
  | 0, _, j, hj => by simp [acN] at hj
  | k + 1, hw, j, hj => by
    have i1 := acN_lt k (fun j hj => hw j (by omega))
    unfold acN stp at hj ⊢
    split at hj
    · rename_i q
      rw [if_pos q]; exact i1 j hj
    · rename_i q
      rw [if_neg q]
      simp only [List.length_append, List.length_singleton] at hj
      by_cases q2 : j < (acN wd k).length
      · rw [gd_l q2]; exact i1 j q2
      · rw [show j = (acN wd k).length by omega]
        rw [gd_r]
        exact hw k (by omega)
theorem anyE_mono {acc : List Nat} {w : Nat} : ∀ {m e : Nat}, e ≤ m → anyE acc w e = true → anyE acc w m = true
  | 0, e, h, q => by rw [show e = 0 by omega] at q; exact q
  | m + 1, e, h, q => by
    by_cases z : e = m + 1
    · rw [z] at q; exact q
    · unfold anyE
      rw [anyE_mono (m := m) (e := e) (by omega) q]; rfl
def UL (g : Nat → Int32) (acc : List Nat) : Prop := ∀ j, j < acc.length → g j = nI (acc.getD j 0)
theorem UL_add {g : Nat → Int32} {acc : List Nat} {w : Nat} (H : UL g acc) : UL (upd g acc.length (nI w)) (acc ++ [w]) := by
  intro j hj
  simp only [List.length_append, List.length_singleton] at hj
  by_cases q : j = acc.length
  · subst q
    rw [gd_r]
    simp [upd]
  · rw [gd_l (by omega)]
    simp only [upd, q, if_false]
    exact H j (by omega)
theorem p_amongL (ha : isW a) {acc : List Nat} {w : Nat} (hg : UL (h.1 (a + 4)) acc) (hl : acc.length ≤ 12) (hlt : ∀ j, j < acc.length → acc.getD j 0 < 1000000) (hw : w < 1000000) : ∀ (d n j : Nat), d < n → j + d = acc.length → anyE acc w j = false → f_X4_isAmongUnlike_2 a (nI w) (nI acc.length) n (nI j) h = some (b01 (anyE acc w acc.length), h) := by
  obtain ⟨-, -, -, -, r4, -, -, -, l4⟩ := isW_r ha
  intro d
  induction d with
  | zero =>
    intro n j hn hj hq
    obtain ⟨n, rfl⟩ : ∃ m, n = m + 1 := ⟨n - 1, by omega⟩
    rw [s_X4_isAmongUnlike_2]
    unfold g_X4_isAmongUnlike_2
    rw [if_pos (by rw [nI_leI (by omega) (by omega)]; omega), show acc.length = j by omega, hq]
    rfl
  | succ d ih =>
    intro n j hn hj hq
    obtain ⟨n, rfl⟩ : ∃ m, n = m + 1 := ⟨n - 1, by omega⟩
    rw [s_X4_isAmongUnlike_2]
    unfold g_X4_isAmongUnlike_2
    have hlj := hlt j (by omega)
    rw [if_neg (by rw [nI_leI (by omega) (by omega)]; omega), r4, l4, if_pos (okI_n (by omega) (by decide)), nI_clamp (by omega), hg j (by omega)]
    by_cases q : acc.getD j 0 = w
    · rw [if_pos (by rw [q]), anyE_mono (e := j + 1) (by omega) (by unfold anyE; rw [q]; simp)]
      rfl
    · rw [if_neg (by rw [nI_eq (by omega) (by omega)]; exact q), L1, nI_add]
      exact ih n (j + 1) (by omega) (by omega) (by unfold anyE; rw [hq]; simpa using q)
theorem p_among (ha : isW a) {acc : List Nat} {w : Nat} (hg : UL (h.1 (a + 4)) acc) (hl : acc.length ≤ 12) (hlt : ∀ j, j < acc.length → acc.getD j 0 < 1000000) (hw : w < 1000000) : f_X4_isAmongUnlike a (nI w) (nI acc.length) h = some (b01 (anyE acc w acc.length), h) := by
  unfold f_X4_isAmongUnlike
  rw [L0]
  exact p_amongL ha hg hl hlt hw acc.length FU 0 (by unfold FU; omega) (by omega) rfl
def wdK (C E : Nat) (ln rt en T : Nat → Nat) (S : Nat → Nat → Int32) (set : Nat) : Nat → Nat := fun k => wlk ln S T set C (jn (rt (k / E)) (en (k % E)))
theorem kdiv {i e E : Nat} (he : e < E) : (i * E + e) / E = i ∧ (i * E + e) % E = e := by
  constructor
  · rw [Nat.mul_comm, Nat.mul_add_div (by omega), Nat.div_eq_of_lt he, Nat.add_zero]
  · rw [Nat.mul_comm, Nat.mul_add_mod, Nat.mod_eq_of_lt he]
theorem klt {i e R E : Nat} (hi : i < R) (he : e < E) : i * E + e < R * E := by
  have : (i + 1) * E ≤ R * E := Nat.mul_le_mul_right _ hi
  rw [Nat.succ_mul] at this
  omega
theorem kin {k R E : Nat} (hk : k < R * E) : k / E < R ∧ k % E < E := by
  have hE : 0 < E := by
    rcases Nat.eq_zero_or_pos E with q | q
    · subst q; omega
    · exact q
  exact ⟨(Nat.div_lt_iff_lt_mul hE).mpr hk, Nat.mod_lt _ hE⟩
theorem RE12 {R E : Nat} (hR : R ≤ 4) (hE : E ≤ 3) : R * E ≤ 12 := Nat.mul_le_mul hR hE
theorem wdK_lt (K : WK h a C ln S T) (Z : SK h R E rt en) : ∀ k, k < R * E → wdK C E ln rt en T S set k < 1000000 := fun k hk => wlk_lt K.T10 C _ (Nat.le_refl _) (Z.lt (kin hk).1 (kin hk).2)
theorem wdK_ltM (K : MK h r C ln S T) (Z : NK h R E rt en) : ∀ k, k < R * E → wdK C E ln rt en T S set k < 1000000 := fun k hk => wlk_lt K.T10 C _ (Nat.le_refl _) (Z.lt (kin hk).1 (kin hk).2)
theorem p_unlE (K : WK h a C ln S T) (Z : SK h R E rt en) (hs : set < 16) {i : Nat} (hi : i < R) (k4 : Int32 → Int32 → Hp → Option (Int32 × Hp)) : ∀ (d n e : Nat) (g : Nat → Int32), d < n → e + d = E → UL g (acN (wdK C E ln rt en T S set) (i * E + e)) →
    ∃ g', UL g' (acN (wdK C E ln rt en T S set) ((i + 1) * E)) ∧ f_X4_unlikeWords_18 a (nI set) k4 n (nI (acN (wdK C E ln rt en T S set) (i * E + e)).length) (nI i) (nI e) (sA h (a + 4) g) = k4 (nI (acN (wdK C E ln rt en T S set) ((i + 1) * E)).length) (nI (i + 1)) (sA h (a + 4) g') := by
  have hR := Z.1
  have hE := Z.2.1
  have h12 := RE12 hR hE
  obtain ⟨r0, -, -, -, r4, -, -, -, l4⟩ := isW_r K.1
  have ha4 : 6 ≠ a + 4 ∧ 7 ≠ a + 4 ∧ 8 ≠ a + 4 := by rcases K.1 with q | q <;> omega
  intro d
  induction d with
  | zero =>
    intro n e g hn hd hg
    obtain ⟨n, rfl⟩ : ∃ m, n = m + 1 := ⟨n - 1, by omega⟩
    have Z' := Z.sA g ha4.1 ha4.2.1 ha4.2.2
    refine ⟨g, ?_, ?_⟩
    · rw [Nat.succ_mul, show E = e by omega]; exact (show E = e by omega) ▸ hg
    · rw [s_X4_unlikeWords_18]
      unfold g_X4_unlikeWords_18
      rw [r0, Z'.2.2.2.1, if_pos (by rw [nI_leI (by omega) (by omega)]; omega), L1, nI_add, Nat.succ_mul, show e = E by omega]
  | succ d ih =>
    intro n e g hn hd hg
    obtain ⟨n, rfl⟩ : ∃ m, n = m + 1 := ⟨n - 1, by omega⟩
    have Z' := Z.sA g ha4.1 ha4.2.1 ha4.2.2
    have K' := K.sA g (show a ≠ a + 4 by omega) (by omega) (by omega)
    have hk := klt hi (show e < E by omega)
    have hkd := kdiv (i := i) (show e < E by omega)
    have hwd : wdK C E ln rt en T S set (i * E + e) = wlk ln S T set C (jn (rt i) (en e)) := by unfold wdK; rw [hkd.1, hkd.2]
    have hwlt := wdK_lt (set := set) K Z (i * E + e) hk
    have hal := acN_len (wdK C E ln rt en T S set) (i * E + e)
    have halt := acN_lt (i * E + e) (fun j hj => wdK_lt (set := set) K Z j (by omega))
    rw [s_X4_unlikeWords_18]
    unfold g_X4_unlikeWords_18 g_X4_unlikeWords_68
    rw [r0, Z'.2.2.2.1, if_neg (by rw [nI_leI (by omega) (by omega)]; omega), p_joined Z' hi (by omega), bnd_s, p_walkWith K' (Z.lt hi (by omega)) hs, bnd_s, ← hwd]
    rw [p_among K.1 (acc := acN (wdK C E ln rt en T S set) (i * E + e)) (by rw [sA_at]; exact hg) (by omega) halt hwlt, bnd_s, ifb]
    by_cases q : anyE (acN (wdK C E ln rt en T S set) (i * E + e)) (wdK C E ln rt en T S set (i * E + e)) (acN (wdK C E ln rt en T S set) (i * E + e)).length = true
    · have e1 : acN (wdK C E ln rt en T S set) (i * E + (e + 1)) = acN (wdK C E ln rt en T S set) (i * E + e) := by
        rw [← Nat.add_assoc, acN, stp, if_pos q]
      obtain ⟨g', u1, u2⟩ := ih n (e + 1) g (by omega) (by omega) (by rw [e1]; exact hg)
      refine ⟨g', u1, ?_⟩
      rw [if_pos q, ← u2, L1, nI_add, e1]
    · have e1 : acN (wdK C E ln rt en T S set) (i * E + (e + 1)) = acN (wdK C E ln rt en T S set) (i * E + e) ++ [wdK C E ln rt en T S set (i * E + e)] := by
        rw [← Nat.add_assoc, acN, stp, if_neg q]
      obtain ⟨g', u1, u2⟩ := ih n (e + 1) (upd g (acN (wdK C E ln rt en T S set) (i * E + e)).length (nI (wdK C E ln rt en T S set (i * E + e)))) (by omega) (by omega) (by rw [e1]; exact UL_add hg)
      refine ⟨g', u1, ?_⟩
      rw [if_neg q, r4, l4, if_pos (okI_n (by omega) (by decide)), nI_clamp (by omega), sI_sA, ← u2, L1, nI_add, nI_add, e1]
      simp only [List.length_append, List.length_singleton]
theorem p_unlR (K : WK h a C ln S T) (Z : SK h R E rt en) (hs : set < 16) : ∀ (d n i : Nat) (g : Nat → Int32), d < n → i + d = R → UL g (acN (wdK C E ln rt en T S set) (i * E)) →
    ∃ g', f_X4_unlikeWords_4 a (nI set) n (nI (acN (wdK C E ln rt en T S set) (i * E)).length) (nI i) (sA h (a + 4) g) = some (nI (acN (wdK C E ln rt en T S set) (R * E)).length, sA h (a + 4) g') := by
  have hR := Z.1
  have hE := Z.2.1
  obtain ⟨r0, -⟩ := isW_r K.1
  have ha4 : 6 ≠ a + 4 ∧ 7 ≠ a + 4 ∧ 8 ≠ a + 4 := by rcases K.1 with q | q <;> omega
  intro d
  induction d with
  | zero =>
    intro n i g hn hd hg
    obtain ⟨n, rfl⟩ : ∃ m, n = m + 1 := ⟨n - 1, by omega⟩
    have Z' := Z.sA g ha4.1 ha4.2.1 ha4.2.2
    refine ⟨g, ?_⟩
    rw [s_X4_unlikeWords_4]
    unfold g_X4_unlikeWords_4
    rw [r0, Z'.2.2.1, if_pos (by rw [nI_leI (by omega) (by omega)]; omega), show i = R by omega]
  | succ d ih =>
    intro n i g hn hd hg
    obtain ⟨n, rfl⟩ : ∃ m, n = m + 1 := ⟨n - 1, by omega⟩
    have Z' := Z.sA g ha4.1 ha4.2.1 ha4.2.2
    obtain ⟨g1, u1, u2⟩ := p_unlE K Z hs (show i < R by omega) (f_X4_unlikeWords_4 a (nI set) n) E FU 0 g (by unfold FU; omega) (by omega) hg
    obtain ⟨g2, u3⟩ := ih n (i + 1) g1 (by omega) (by omega) u1
    refine ⟨g2, ?_⟩
    rw [s_X4_unlikeWords_4]
    unfold g_X4_unlikeWords_4
    rw [r0, Z'.2.2.1, if_neg (by rw [nI_leI (by omega) (by omega)]; omega), L0]
    rw [Nat.add_zero] at u2
    rw [u2, u3]
theorem p_unl (K : WK h a C ln S T) (Z : SK h R E rt en) (hs : set < 16) : ∃ g, f_X4_unlikeWords a (nI set) h = some (nI (acN (wdK C E ln rt en T S set) (R * E)).length, sA h (a + 4) g) := by
  have hR := Z.1
  obtain ⟨g, u⟩ := p_unlR (set := set) K Z hs R FU 0 (h.1 (a + 4)) (by unfold FU; omega) (by omega) (fun j hj => by simp [acN] at hj)
  rw [sA_self] at u
  refine ⟨g, ?_⟩
  unfold f_X4_unlikeWords
  rw [L0]
  simpa [acN] using u
theorem q_unlW (k5 : Int32 → Int32 → Hp → Option (Int32 × Hp)) {acc : List Nat} {w k : Nat} {g : Nat → Int32} (hg : UL g acc) (hl : acc.length < 12) (hlt : ∀ j, j < acc.length → acc.getD j 0 < 1000000) (hw : w < 1000000) : ∀ (d n j : Nat), d < n → j + d = acc.length →
    ∃ g', UL g' (stp acc w) ∧ f_X7_unlike_47 41 r (nI set) k5 n (nI acc.length) (nI k) (nI w) (b01 (anyE acc w j)) (nI j) (sA h 57 g) = k5 (nI (stp acc w).length) (nI (k + 1)) (sA h 57 g') := by
  intro d
  induction d with
  | zero =>
    intro n j hn hj
    obtain ⟨n, rfl⟩ : ∃ m, n = m + 1 := ⟨n - 1, by omega⟩
    rw [s_X7_unlike_47]
    unfold g_X7_unlike_47 g_X7_unlike_99 stp
    rw [if_pos (show nI acc.length ≤ nI j by rw [nI_leI (by omega) (by omega)]; omega), ifb, show j = acc.length by omega]
    by_cases q : anyE acc w acc.length = true
    · rw [if_pos q, if_pos q]
      exact ⟨g, hg, by rw [L1, nI_add]⟩
    · rw [if_neg q, if_neg q]
      refine ⟨upd g acc.length (nI w), UL_add hg, ?_⟩
      rw [show rF 41 28 = 57 from rfl, show lN_ 57 = 12 from rfl, if_pos (okI_n (by omega) (by decide)), nI_clamp (by omega), sI_sA, L1, nI_add, nI_add]
      simp only [List.length_append, List.length_singleton]
  | succ d ih =>
    intro n j hn hj
    obtain ⟨n, rfl⟩ : ∃ m, n = m + 1 := ⟨n - 1, by omega⟩
    have hlj := hlt j (by omega)
    obtain ⟨g', u1, u2⟩ := ih n (j + 1) (by omega) (by omega)
    refine ⟨g', u1, ?_⟩
    rw [← u2, s_X7_unlike_47]
    unfold g_X7_unlike_47 g_X7_unlike_70 g_X7_unlike_75
    rw [if_neg (by rw [nI_leI (by omega) (by omega)]; omega), ifb]
    by_cases q : anyE acc w j = true
    · rw [if_pos q, L1, nI_add, anyE_mono (e := j) (m := j + 1) (by omega) q]
      rfl
    · rw [if_neg q, show rF 41 28 = 57 from rfl, show lN_ 57 = 12 from rfl, if_pos (okI_n (by omega) (by decide)), nI_clamp (by omega), sA_at, hg j (by omega)]
      have e1 : anyE acc w (j + 1) = decide (acc.getD j 0 = w) := by
        rw [anyE]
        simp [q]
      rw [e1]
      by_cases q2 : acc.getD j 0 = w
      · rw [if_pos (by rw [q2]), L1, nI_add, decide_eq_true q2]
        rfl
      · rw [if_neg (by rw [nI_eq (by omega) (by omega)]; exact q2), L1, nI_add, decide_eq_false q2]
        rfl
theorem q_unlL (K : MK h r C ln S T) (Z : NK h R E rt en) (hs : set < 16) : ∀ (d n k : Nat) (g : Nat → Int32), d < n → k + d = R * E → UL g (acN (wdK C E ln rt en T S set) k) →
    ∃ g', f_X7_unlike_5 41 r (nI set) n (nI (acN (wdK C E ln rt en T S set) k).length) (nI k) (sA h 57 g) = some (nI (acN (wdK C E ln rt en T S set) (R * E)).length, sA h 57 g') := by
  have hR := Z.1
  have hE := Z.2.1
  have h12 := RE12 hR hE
  have hr57 : r ≠ 57 := by rcases K.1 with q | q <;> omega
  intro d
  induction d with
  | zero =>
    intro n k g hn hd hg
    obtain ⟨n, rfl⟩ : ∃ m, n = m + 1 := ⟨n - 1, by omega⟩
    have Z' := Z.sA g (show 41 ≠ 57 by decide) (by decide) (by decide)
    refine ⟨g, ?_⟩
    rw [s_X7_unlike_5]
    unfold g_X7_unlike_5
    rw [Z'.2.2.1, Z'.2.2.2.1, pk_mul, if_pos (by rw [nI_leI (by omega) (by omega)]; omega), show k = R * E by omega]
  | succ d ih =>
    intro n k g hn hd hg
    obtain ⟨n, rfl⟩ : ∃ m, n = m + 1 := ⟨n - 1, by omega⟩
    have Z' := Z.sA g (show 41 ≠ 57 by decide) (by decide) (by decide)
    have K' := K.sA g hr57 (by decide)
    have hk := kin (show k < R * E by omega)
    have hal := acN_len (wdK C E ln rt en T S set) k
    obtain ⟨g1, u1, u2⟩ := q_unlW (r := r) (set := set) (h := h) (f_X7_unlike_5 41 r (nI set) n) (k := k) hg (by omega) (acN_lt k (fun j hj => wdK_ltM (set := set) K Z j (by omega))) (wdK_ltM (set := set) K Z k (by omega)) (acN (wdK C E ln rt en T S set) k).length FU 0 (by unfold FU; omega) (by omega)
    obtain ⟨g2, u3⟩ := ih n (k + 1) g1 (by omega) (by omega) u1
    refine ⟨g2, ?_⟩
    rw [s_X7_unlike_5]
    unfold g_X7_unlike_5
    rw [Z'.2.2.1, Z'.2.2.2.1, pk_mul, if_neg (by rw [nI_leI (by omega) (by omega)]; omega)]
    rw [if_neg (by rw [L0, nI_eq (by omega) (by omega)]; omega), if_neg (by rw [L0, nI_eq (by omega) (by omega)]; omega)]
    rw [pk_rem (by omega) (by omega) (by omega), pk_div (by omega) (by omega) (by omega), p_madeBy K' Z' hk.1 hk.2 hs, bnd_s]
    refine Eq.trans ?_ u3
    refine Eq.trans ?_ u2
    rfl
theorem q_unl (K : MK h r C ln S T) (Z : NK h R E rt en) (hs : set < 16) : ∃ g, f_X7_unlike 41 r (nI set) h = some (nI (acN (wdK C E ln rt en T S set) (R * E)).length, sA h 57 g) := by
  have h12 := RE12 Z.1 Z.2.1
  obtain ⟨g, u⟩ := q_unlL (set := set) K Z hs (R * E) FU 0 (h.1 57) (by unfold FU; omega) (by omega) (fun j hj => by simp [acN] at hj)
  rw [sA_self] at u
  refine ⟨g, ?_⟩
  unfold f_X7_unlike
  rw [L0]
  simpa [acN] using u
end SETS
