/-! the best order -/
theorem exI_le (fm : Nat → Int32) (mk : Nat → Nat → Nat) (i e : Nat) : exI fm mk i e ≤ 1 := by
  unfold exI
  repeat' split
  all_goals omega
theorem exE_le (fm : Nat → Int32) (mk : Nat → Nat → Nat) (i : Nat) : ∀ e, exE fm mk i e ≤ e
  | 0 => Nat.le_refl _
  | e + 1 => by
    have := exE_le fm mk i e
    have := exI_le fm mk i e
    rw [exE]; omega
theorem exR_le (fm : Nat → Int32) (mk : Nat → Nat → Nat) (E : Nat) : ∀ i, exR fm mk E i ≤ i * E
  | 0 => by rw [exR]; omega
  | i + 1 => by
    have h1 := exR_le fm mk E i
    have h2 := exE_le fm mk i E
    rw [exR, Nat.add_mul]; omega
def fg (C o : Nat) : Nat → Nat
  | 0 => 0
  | p + 1 => 10 * fg C o p + dgO C o p
def sbp (X F : Nat → Nat) (o : Nat) : Option (Nat × Nat × Nat) → Nat × Nat × Nat
  | none => (X o, F o, 1)
  | some (b, f, w) => if X o < b then (X o, F o, 1) else if X o = b then (b, f, w + 1) else (b, f, w)
def mso (X F : Nat → Nat) : List Nat → Option (Nat × Nat × Nat) → Option (Nat × Nat × Nat)
  | [], s => s
  | o :: r, s => mso X F r (some (sbp X F o s))
def e0 : Option (Nat × Nat × Nat) → Int32
  | none => -9
  | some s => nI s.1
def e1 : Option (Nat × Nat × Nat) → Int32
  | none => 0
  | some s => nI s.2.1
def e2 : Option (Nat × Nat × Nat) → Int32
  | none => 0
  | some s => nI s.2.2
def sel (x : Int32) (s : Option (Nat × Nat × Nat)) : Int32 := if x = 0 then e0 s else if x = 1 then e1 s else e2 s
def BC (h : Hp) (C : Nat) (S : Nat → Nat → Int32) (T : Nat → Nat) (fm : Nat → Int32) : Prop := C ≤ 4 ∧ h.1 14 5 = nI C ∧ (∀ c k, c < C → k < 4 → h.1 15 (c * 4 + k) = S c k) ∧ (∀ c, c < C → S c 1 = nI (T c) ∧ T c < 10) ∧ (∀ j, j < 12 → h.1 17 j = fm j)
theorem BC_wk {h : Hp} {C : Nat} {S : Nat → Nat → Int32} {T : Nat → Nat} {fm g : Nat → Int32} (K : BC h C S T fm) {o : Nat} (ho : o < 4 ^ C) (hb : ioB C o = true) : WK (sA h 16 (W4 g (Lo C o))) 14 C (dgO C o) S T := by
  obtain ⟨hC, h5, h15, hT, -⟩ := K
  refine ⟨Or.inr rfl, hC, by rw [sA_ne _ _ (by decide)]; exact h5, fun j hj => ⟨?_, dgB C hC o ho hb j hj⟩, fun c k hc hk => by rw [sA_ne _ _ (by decide)]; exact h15 c k hc hk, hT⟩
  rw [sA_at, W4_at (by omega), Lo_at hC hj]
theorem p_fig {h : Hp} {C o : Nat} (hC : C ≤ 4) (h5 : h.1 14 5 = nI C) (h16 : ∀ j, j < C → h.1 16 j = nI (dgO C o j)) : f_X4_orderFigures 14 h = some (nI (fg C o C), h) := by
  have L : ∀ (d n p : Nat), d < n → p + d = C → f_X4_orderFigures_4 14 n (nI (fg C o p)) (nI p) h = some (nI (fg C o C), h) := by
    intro d
    induction d with
    | zero =>
      intro n p hn hd
      obtain ⟨n, rfl⟩ : ∃ m, n = m + 1 := ⟨n - 1, by omega⟩
      rw [s_X4_orderFigures_4]
      unfold g_X4_orderFigures_4
      rw [h5, if_pos (by rw [nI_leI (by omega) (by omega)]; omega), show p = C by omega]
    | succ d ih =>
      intro n p hn hd
      obtain ⟨n, rfl⟩ : ∃ m, n = m + 1 := ⟨n - 1, by omega⟩
      rw [← ih n (p + 1) (by omega) (by omega), s_X4_orderFigures_4]
      unfold g_X4_orderFigures_4
      rw [h5, if_neg (by rw [nI_leI (by omega) (by omega)]; omega), R14_2, N_16, if_pos (okI_n (by omega) (by decide)), nI_clamp (by omega), h16 p (by omega), L10, pk_mul, nI_add, L1, nI_add]
      rfl
  exact L C FU 0 (by unfold FU; omega) (by omega)
theorem q_fig {h : Hp} {C o : Nat} (hC : C ≤ 4) (h13 : h.1 41 13 = nI C) (ho : o < 4 ^ C) : f_X7_figuresOf 41 (nI o) h = some (nI (fg C o C), h) := by
  have L : ∀ (d n p : Nat), d < n → p + d = C → f_X7_figuresOf_4 41 (nI o) n (nI (fg C o p)) (nI p) h = some (nI (fg C o C), h) := by
    intro d
    induction d with
    | zero =>
      intro n p hn hd
      obtain ⟨n, rfl⟩ : ∃ m, n = m + 1 := ⟨n - 1, by omega⟩
      rw [s_X7_figuresOf_4]
      unfold g_X7_figuresOf_4
      rw [h13, if_pos (by rw [nI_leI (by omega) (by omega)]; omega), show p = C by omega]
    | succ d ih =>
      intro n p hn hd
      obtain ⟨n, rfl⟩ : ∃ m, n = m + 1 := ⟨n - 1, by omega⟩
      rw [← ih n (p + 1) (by omega) (by omega), s_X7_figuresOf_4]
      unfold g_X7_figuresOf_4
      rw [h13, if_neg (by rw [nI_leI (by omega) (by omega)]; omega), p_chAt hC h13 ho (by omega), bnd_s, L10, pk_mul, nI_add, L1, nI_add]
      rfl
  exact L C FU 0 (by unfold FU; omega) (by omega)
theorem p_bL {h : Hp} {C R E : Nat} {S : Nat → Nat → Int32} {rt en T : Nat → Nat} {fm g : Nat → Int32} (K : BC h C S T fm) (Z : SK h R E rt en) {X : Nat → Nat} (hX : X = fun o => exR fm (mkW C (dgO C o) rt en T S) E R) (x : Int32) : ∀ (r : List Nat) (n i o b f w : Nat), r.length < n → i ≤ 24 → lk C i o r = true → b < 100 → o < 4 ^ C → ioB C o = true →
    ∃ f', f_X6_best_52 0 x n (nI b) (nI f) (nI w) (nI i) (sA h 16 (W4 g (Lo C o))) = some (sel x (mso X (fun o => fg C o C) r (some (b, f, w))), sA h 16 f') := by
  have hC := K.1
  have h24 : (24 : Int32) = nI 24 := rfl
  have hR := Z.1
  have hE := Z.2.1
  have XB : ∀ o, X o < 100 := fun o => by
    rw [hX]
    have := exR_le fm (mkW C (dgO C o) rt en T S) E R
    have := Nat.mul_le_mul hR hE
    show exR fm (mkW C (dgO C o) rt en T S) E R < 100
    omega
  have e116 : ∀ b f w (q : Hp), g_X6_best_116 0 x (nI b) (nI f) (nI w) q = some (sel x (some (b, f, w)), q) := fun b f w q => by
    unfold g_X6_best_116 sel e0 e1 e2
    by_cases z : x = 0
    · rw [if_pos z, if_pos z]
    · rw [if_neg z, if_neg z]
      by_cases z1 : x = 1
      · rw [if_pos z1, if_pos z1]
      · rw [if_neg z1, if_neg z1]
  have nx0 : ∀ {o : Nat} {v : Int32} {M : List Nat}, nxL (nI C) (Lo C o) = some (v, M) → f_X4_goToNextOrder 14 (sA h 16 (W4 g (Lo C o))) = some (v, sA h 16 (W4 g M)) := fun {o v M} e => by rw [c_next (Lo_len C o), K.2.1, e]; rfl
  intro r
  induction r with
  | nil =>
    intro n i o b f w hn hi hl hb ho hio
    obtain ⟨n, rfl⟩ : ∃ m, n = m + 1 := ⟨n - 1, by omega⟩
    rw [s_X6_best_52]
    unfold g_X6_best_52
    refine ⟨W4 g (Lo C o), ?_⟩
    rw [mso]
    by_cases z : 24 ≤ i
    · rw [h24, if_pos (by rw [nI_leI (by omega) (by omega)]; exact z), e116]
    · rw [lk, decide_eq_false z, Bool.false_or] at hl
      rw [h24, if_neg (by rw [nI_leI (by omega) (by omega)]; exact z), R0_3, nx0 (of_decide_eq_true hl), bnd_s, if_pos rfl, e116]
  | cons o' r ih =>
    intro n i o b f w hn hi hl hb ho hio
    rw [lk] at hl
    simp only [Bool.and_eq_true, decide_eq_true_eq] at hl
    obtain ⟨l1, l2, l3, l4, l5⟩ := hl
    obtain ⟨n, rfl⟩ : ∃ m, n = m + 1 := ⟨n - 1, by omega⟩
    have K2 := BC_wk (g := g) K l3 l4
    have ex : f_X4_exceptions 14 (sA h 16 (W4 g (Lo C o'))) = some (nI (X o'), sA h 16 (W4 g (Lo C o'))) := by
      rw [p_exc (fm := fm) K2 (show SK (sA h 16 (W4 g (Lo C o'))) R E rt en from Z) (fun j hj => by rw [sA_ne _ _ (by decide)]; exact K.2.2.2.2 j hj), hX]
    have hx := XB o'
    have st : f_X6_best_52 0 x (n + 1) (nI b) (nI f) (nI w) (nI i) (sA h 16 (W4 g (Lo C o))) = (if nI b ≤ nI (X o') then (if nI (X o') = nI b then f_X6_best_52 0 x n (nI b) (nI f) (nI (w + 1)) (nI (i + 1)) (sA h 16 (W4 g (Lo C o'))) else f_X6_best_52 0 x n (nI b) (nI f) (nI w) (nI (i + 1)) (sA h 16 (W4 g (Lo C o')))) else f_X6_best_52 0 x n (nI (X o')) (nI (fg C o' C)) (nI 1) (nI (i + 1)) (sA h 16 (W4 g (Lo C o')))) := by
      rw [s_X6_best_52]
      unfold g_X6_best_52 g_X6_best_110
      rw [h24, if_neg (by rw [nI_leI (by omega) (by omega)]; omega), R0_3, nx0 l2, bnd_s, if_neg (show ¬ (1 : Int32) = 0 by decide), ex, bnd_s, p_fig (o := o') hC (by rw [sA_ne _ _ (by decide)]; exact K.2.1) (fun j hj => by rw [sA_at, W4_at (by omega), Lo_at hC hj]), bnd_s, L1, nI_add, nI_add]
    rw [mso, st]
    unfold sbp
    by_cases q : X o' < b
    · rw [if_neg (by rw [nI_leI (by omega) (by omega)]; omega)]
      simp only [if_pos q]
      exact ih n (i + 1) o' _ _ _ (by simpa using hn) (by omega) l5 (by omega) l3 l4
    · rw [if_pos (by rw [nI_leI (by omega) (by omega)]; omega)]
      simp only [if_neg q]
      by_cases q2 : X o' = b
      · rw [if_pos (by rw [q2])]
        simp only [if_pos q2]
        exact ih n (i + 1) o' _ _ _ (by simpa using hn) (by omega) l5 (by omega) l3 l4
      · rw [if_neg (by rw [nI_eq (by omega) (by omega)]; exact q2)]
        simp only [if_neg q2]
        exact ih n (i + 1) o' _ _ _ (by simpa using hn) (by omega) l5 (by omega) l3 l4
/-! the reference's trial row -/
theorem q_lay (h : Hp) : ∃ f, (∀ j, j < 32 → f j = h.1 43 j) ∧ f_X7_layTrial 41 h = some (sA h 44 f) := by
  have L : ∀ (d n i : Nat) (f : Nat → Int32), d < n → i + d = 32 → (∀ j, j < i → f j = h.1 43 j) → ∃ f', (∀ j, j < 32 → f' j = h.1 43 j) ∧ f_X7_layTrial_2 41 n (nI i) (sA h 44 f) = some (sA h 44 f') := by
    intro d
    induction d with
    | zero =>
      intro n i f hn hd h1
      obtain ⟨n, rfl⟩ : ∃ m, n = m + 1 := ⟨n - 1, by omega⟩
      refine ⟨f, fun j hj => h1 j (by omega), ?_⟩
      rw [s_X7_layTrial_2]
      unfold g_X7_layTrial_2
      rw [L32, if_pos (by rw [nI_leI (by omega) (by omega)]; omega)]
    | succ d ih =>
      intro n i f hn hd h1
      obtain ⟨n, rfl⟩ : ∃ m, n = m + 1 := ⟨n - 1, by omega⟩
      obtain ⟨f', k1, k3⟩ := ih n (i + 1) (upd f i (h.1 43 i)) (by omega) (by omega) (fun j hj => by
        by_cases q : j = i
        · subst q; rw [upd_at]
        · rw [upd_ne _ _ q]; exact h1 j (by omega))
      refine ⟨f', k1, ?_⟩
      rw [← k3, s_X7_layTrial_2]
      unfold g_X7_layTrial_2
      rw [L32, if_neg (by rw [nI_leI (by omega) (by omega)]; omega), R41_2, R41_3, N_43, N_44, if_pos (okI_n (by omega) (by decide)), if_pos (okI_n (by omega) (by decide)), nI_clamp (by omega), sI_sA, sA_ne _ _ (show (43 : Nat) ≠ 44 by decide), L1, nI_add]
  obtain ⟨f', k1, k2⟩ := L 32 FU 0 (h.1 44) (by decide) rfl (fun j hj => absurd hj (by omega))
  rw [sA_self] at k2
  exact ⟨f', k1, k2⟩
def BM (h : Hp) (C : Nat) (S : Nat → Nat → Int32) (T : Nat → Nat) (fm : Nat → Int32) : Prop := C ≤ 4 ∧ h.1 41 13 = nI C ∧ (∀ c k, c < C → k < 4 → h.1 43 (4 + 4 * c + k) = S c k) ∧ (∀ c, c < C → S c 1 = nI (T c) ∧ T c < 10) ∧ (∀ j, j < 12 → h.1 43 (20 + j) = fm j)
section BEST
variable {h : Hp} {C R E : Nat} {S : Nat → Nat → Int32} {rt en T : Nat → Nat} {fm : Nat → Int32} {X : Nat → Nat}
theorem q_b55 (K : BM h C S T fm) (Z : NK h R E rt en) (hX : X = fun o => exR fm (mkW C (dgO C o) rt en T S) E R) (x : Int32) (k30 : Int32 → Int32 → Int32 → Int32 → Hp → Option (Int32 × Hp)) {o : Nat} (ho : o < 4 ^ C) (hb : ioB C o = true) (s : Option (Nat × Nat × Nat)) (hs : ∀ t, s = some t → t.1 < 100) :
    ∀ (d n p : Nat) (f : Nat → Int32), d < n → p + d = C → (∀ j, j < p → f j = nI (dgO C o j)) → (∀ j, 4 ≤ j → j < 32 → f j = h.1 43 j) →
    ∃ f', (∀ j, 4 ≤ j → j < 32 → f' j = h.1 43 j) ∧ f_X7_best_55 41 x k30 n (e0 s) (e1 s) (e2 s) (nI o) (nI p) (sA h 44 f) = k30 (nI (sbp X (fun o => fg C o C) o s).1) (nI (sbp X (fun o => fg C o C) o s).2.1) (nI (sbp X (fun o => fg C o C) o s).2.2) (nI (o + 1)) (sA h 44 f') := by
  obtain ⟨hC, h13, hS, hT, hf⟩ := K
  have h256 := pow256 hC
  have hR := Z.1
  have hE := Z.2.1
  have XB : X o < 100 := by
    rw [hX]
    have := exR_le fm (mkW C (dgO C o) rt en T S) E R
    have := Nat.mul_le_mul hR hE
    show exR fm (mkW C (dgO C o) rt en T S) E R < 100
    omega
  intro d
  induction d with
  | zero =>
    intro n p f hn hd h1 h2
    obtain ⟨n, rfl⟩ : ∃ m, n = m + 1 := ⟨n - 1, by omega⟩
    refine ⟨f, h2, ?_⟩
    have M : MK (sA h 44 f) 44 C (dgO C o) S T := by
      refine ⟨Or.inr rfl, hC, by rw [sA_ne _ _ (by decide)]; exact h13, fun j hj => ⟨?_, dgB C hC o ho hb j hj⟩, fun c k hc hk => ?_, hT⟩
      · rw [sA_at]; exact h1 j (by omega)
      · rw [sA_at, h2 _ (by omega) (by omega)]; exact hS c k hc hk
    have ex : f_X7_exceptions 41 44 (sA h 44 f) = some (nI (X o), sA h 44 f) := by
      rw [q_exc (fm := fm) M (show NK (sA h 44 f) R E rt en from Z) (fun j hj => by rw [sA_at, h2 _ (by omega) (by omega)]; exact hf j hj), hX]
    rw [s_X7_best_55]
    unfold g_X7_best_55
    have g107 : ∀ b f' w, g_X7_best_107 41 x k30 b f' w (nI o) (nI (X o)) (sA h 44 f) = k30 (nI (X o)) (nI (fg C o C)) (nI 1) (nI (o + 1)) (sA h 44 f) := fun b f' w => by
      unfold g_X7_best_107 g_X7_best_112
      rw [if_neg (by decide), q_fig hC (by rw [sA_ne _ _ (by decide)]; exact h13) ho, bnd_s]
      show k30 (nI (X o)) (nI (fg C o C)) 1 (nI o + 1) _ = _
      rw [L1, nI_add]
    rw [sA_ne _ _ (show (41 : Nat) ≠ 44 by decide), h13, if_pos (by rw [nI_leI (by omega) (by omega)]; omega), R41_3, ex, bnd_s]
    cases s with
    | none =>
      rw [if_pos (show e0 none = -9 from rfl), g107]
      rfl
    | some t =>
      obtain ⟨b, f0, w⟩ := t
      have hbl : b < 100 := hs _ rfl
      rw [if_neg (show ¬ e0 (some (b, f0, w)) = -9 from ne9 (by show b < _; omega))]
      show (if nI b ≤ nI (X o) then g_X7_best_112 41 x k30 (nI b) (nI f0) (nI w) (nI o) (nI (X o)) 0 _ else g_X7_best_107 41 x k30 (nI b) (nI f0) (nI w) (nI o) (nI (X o)) _) = _
      rw [g107]
      unfold sbp
      by_cases q : X o < b
      · rw [if_neg (by rw [nI_leI (by omega) (by omega)]; omega)]
        simp only [if_pos q]
      · rw [if_pos (by rw [nI_leI (by omega) (by omega)]; omega)]
        simp only [if_neg q]
        unfold g_X7_best_112 g_X7_best_129
        rw [if_pos (show (0 : Int32) = 0 from rfl), if_pos (show (0 : Int32) = 0 from rfl)]
        by_cases q2 : X o = b
        · rw [if_pos (by rw [q2])]
          simp only [if_pos q2]
          show k30 (nI b) (nI f0) (nI w + 1) (nI o + 1) _ = _
          rw [L1, nI_add, nI_add]
        · rw [if_neg (by rw [nI_eq (by omega) (by omega)]; exact q2)]
          simp only [if_neg q2]
          show k30 (nI b) (nI f0) (nI w) (nI o + 1) _ = _
          rw [L1, nI_add]
  | succ d ih =>
    intro n p f hn hd h1 h2
    obtain ⟨n, rfl⟩ : ∃ m, n = m + 1 := ⟨n - 1, by omega⟩
    obtain ⟨f', k1, k2⟩ := ih n (p + 1) (upd f p (nI (dgO C o p))) (by omega) (by omega) (fun j hj => by
      by_cases q : j = p
      · subst q; rw [upd_at]
      · rw [upd_ne _ _ q]; exact h1 j (by omega)) (fun j a b => by rw [upd_ne _ _ (by omega)]; exact h2 j a b)
    refine ⟨f', k1, ?_⟩
    rw [← k2, s_X7_best_55]
    unfold g_X7_best_55
    rw [sA_ne _ _ (show (41 : Nat) ≠ 44 by decide), h13, if_neg (by rw [nI_leI (by omega) (by omega)]; omega), p_chAt hC (by rw [sA_ne _ _ (by decide)]; exact h13) ho (by omega), bnd_s, R41_3, N_44, if_pos (okI_n (by omega) (by decide)), nI_clamp (by omega), sI_sA, L1, nI_add]
theorem stp_lt (hX : ∀ o, X o < 100) {F : Nat → Nat} (o : Nat) (s : Option (Nat × Nat × Nat)) (hs : ∀ t, s = some t → t.1 < 100) : (sbp X F o s).1 < 100 := by
  cases s with
  | none => exact hX o
  | some t =>
    obtain ⟨b, f, w⟩ := t
    have hb : b < 100 := hs _ rfl
    have := hX o
    unfold sbp
    by_cases q : X o < b
    · simp only [if_pos q]; exact this
    · simp only [if_neg q]
      by_cases q2 : X o = b
      · simp only [if_pos q2]; exact hb
      · simp only [if_neg q2]; exact hb
theorem q_bL (K : BM h C S T fm) (Z : NK h R E rt en) (hX : X = fun o => exR fm (mkW C (dgO C o) rt en T S) E R) (x : Int32) : ∀ (d n o : Nat) (s : Option (Nat × Nat × Nat)) (f : Nat → Int32), d < n → o + d = 4 ^ C → (∀ t, s = some t → t.1 < 100) → (∀ j, 4 ≤ j → j < 32 → f j = h.1 43 j) →
    ∃ f', f_X7_best_30 41 x n (e0 s) (e1 s) (e2 s) (nI o) (sA h 44 f) = some (sel x (mso X (fun o => fg C o C) (oL C d o) s), sA h 44 f') := by
  have hC := K.1
  have h13 := K.2.1
  have h256 := pow256 hC
  have hR := Z.1
  have hE := Z.2.1
  have XB : ∀ o, X o < 100 := fun o => by
    rw [hX]
    have := exR_le fm (mkW C (dgO C o) rt en T S) E R
    have := Nat.mul_le_mul hR hE
    show exR fm (mkW C (dgO C o) rt en T S) E R < 100
    omega
  intro d
  induction d with
  | zero =>
    intro n o s f hn hd hs h2
    obtain ⟨n, rfl⟩ : ∃ m, n = m + 1 := ⟨n - 1, by omega⟩
    refine ⟨f, ?_⟩
    rw [s_X7_best_30]
    unfold g_X7_best_30 sel oL
    rw [sA_ne _ _ (show (41 : Nat) ≠ 44 by decide), h13, shl2C C hC, if_pos (by rw [nI_leI (by omega) (by omega)]; omega), mso]
    by_cases z : x = 0
    · rw [if_pos z, if_pos z]
    · rw [if_neg z, if_neg z]
      by_cases z1 : x = 1
      · rw [if_pos z1, if_pos z1]
      · rw [if_neg z1, if_neg z1]
  | succ d ih =>
    intro n o s f hn hd hs h2
    obtain ⟨n, rfl⟩ : ∃ m, n = m + 1 := ⟨n - 1, by omega⟩
    have ho : o < 4 ^ C := by omega
    rw [s_X7_best_30]
    unfold g_X7_best_30
    rw [sA_ne _ _ (show (41 : Nat) ≠ 44 by decide), h13, shl2C C hC, if_neg (by rw [nI_leI (by omega) (by omega)]; omega), p_isOrd hC (by rw [sA_ne _ _ (by decide)]; exact h13) ho, bnd_s, ifb, oL]
    by_cases q : ioB C o = true
    · rw [if_pos q, if_pos q, mso]
      obtain ⟨f', k1, k2⟩ := q_b55 K Z hX x (f_X7_best_30 41 x n) ho q s hs C FU 0 f (by unfold FU; omega) (by omega) (fun j hj => absurd hj (by omega)) h2
      obtain ⟨f2, k3⟩ := ih n (o + 1) (some (sbp X (fun o => fg C o C) o s)) f' (by omega) (by omega) (fun t ht => by cases ht; exact stp_lt XB o s hs) k1
      exact ⟨f2, k2.trans k3⟩
    · rw [if_neg q, if_neg q]
      unfold g_X7_best_168
      rw [L1, nI_add]
      exact ih n (o + 1) s f (by omega) (by omega) hs h2
end BEST
theorem st_best {h : Hp} (H : Rel h) (x : Int32) : St (f_X6_best 0 x) (f_X7_best 41 x) h := by
  have H0 := H
  obtain ⟨C, hW, ⟨R, E, rt, en, Z, N⟩, hT, hG, hK, hD, hZ⟩ := H
  have hC := hW.1
  have eS : ∀ {α : Type} (a b : α), (if x < 0 then a else if x ≤ (2 : Int32) then b else a) = if inI x 0 2 = true then b else a := by
    intro α a b
    unfold inI
    by_cases q : x < 0
    · rw [if_pos q, if_neg (fun z => by have := of_decide_eq_true z; rw [Int32.lt_iff_toInt_lt] at q; have q2 : x.toInt < 0 := q; omega)]
    · rw [if_neg q]
      by_cases q2 : x ≤ (2 : Int32)
      · rw [if_pos q2, if_pos (decide_eq_true (by rw [Int32.lt_iff_toInt_lt] at q; have q3 : ¬ x.toInt < 0 := q; rw [Int32.le_iff_toInt_le] at q2; have q4 : x.toInt ≤ 2 := q2; omega))]
      · rw [if_neg q2, if_neg (fun z => by have := of_decide_eq_true z; rw [Int32.le_iff_toInt_le] at q2; have q4 : ¬ x.toInt ≤ 2 := q2; omega)]
  by_cases q : inI x 0 2 = true
  · have ok : okT 14 9 = true := by decide
    obtain ⟨ob, o1, o2⟩ := p_obn (Or.inr rfl) (tkF h 14 9)
    have c0 := lkA_ok C hC
    unfold lkA at c0
    cases ho : oL C (4 ^ C) 0 with
    | nil => rw [ho] at c0; cases c0
    | cons o r =>
      rw [ho] at c0
      simp only [Bool.and_eq_true, decide_eq_true_eq] at c0
      obtain ⟨l1, l2, l3, l4⟩ := c0
      have w4 : ob = W4 ob (Lo C o) := by
        funext i
        unfold W4
        by_cases z : i < 4
        · rw [if_pos z, o1 i z, l1]
          rcases (show i = 0 ∨ i = 1 ∨ i = 2 ∨ i = 3 by omega) with rfl | rfl | rfl | rfl <;> rfl
        · rw [if_neg z]
      have K : BC (tkF h 14 9) C (SH h 9) (TH h 9) (h.1 12) := by
        have Kw := hW.wk
        refine ⟨hC, by rw [tk_5]; exact hW.2.1, fun c k hc hk => ?_, fun c hc => Kw.2.2.2.2.2 c hc, fun j hj => ?_⟩
        · have e : (tkF h 14 9).1 15 = va_cpy (h.1 10) (h.1 15) 0 0 16 := congrArg (fun t => t.2.1) (tk_tr h 14 9)
          rw [e, cpy_lt (by omega)]; rfl
        · have e : (tkF h 14 9).1 17 = va_cpy (h.1 12) (h.1 17) 0 0 12 := congrArg (fun t => t.2.2) (tk_tr h 14 9)
          rw [e, cpy_lt hj]
      have ZT : SK (tkF h 14 9) R E rt en := by
        unfold SK
        rw [tk_O (by decide) (by decide) (by decide) (by decide), tk_O (by decide) (by decide) (by decide) (by decide), tk_O (by decide) (by decide) (by decide) (by decide)]
        exact Z
      obtain ⟨X, hX⟩ : ∃ X : Nat → Nat, X = fun o => exR (h.1 12) (mkW C (dgO C o) rt en (TH h 9) (SH h 9)) E R := ⟨_, rfl⟩
      have XB : ∀ o, X o < 100 := fun o => by
        rw [hX]
        have := exR_le (h.1 12) (mkW C (dgO C o) rt en (TH h 9) (SH h 9)) E R
        have := Nat.mul_le_mul Z.1 Z.2.1
        show exR (h.1 12) (mkW C (dgO C o) rt en (TH h 9) (SH h 9)) E R < 100
        omega
      obtain ⟨f', k⟩ := p_bL (g := ob) K ZT hX x r FU 1 o (X o) (fg C o C) 1 (by
        have : ∀ (d o : Nat), (oL C d o).length ≤ d := by
          intro d
          induction d with
          | zero => intro o; exact Nat.le_refl _
          | succ d ih =>
            intro o
            rw [oL]
            have := ih (o + 1)
            by_cases z : ioB C o = true
            · rw [if_pos z, List.length_cons]; omega
            · rw [if_neg z]; omega
        have h1 := this (4 ^ C) 0
        rw [ho, List.length_cons] at h1
        have := pow256 hC
        unfold FU; omega) (by decide) l4 (XB o) l2 l3
      have K2 := BC_wk (g := ob) K l2 l3
      have ex : f_X4_exceptions 14 (sA (tkF h 14 9) 16 (W4 ob (Lo C o))) = some (nI (X o), sA (tkF h 14 9) 16 (W4 ob (Lo C o))) := by
        rw [p_exc (fm := h.1 12) K2 (show SK (sA (tkF h 14 9) 16 (W4 ob (Lo C o))) R E rt en from ZT) (fun j hj => by rw [sA_ne _ _ (by decide)]; exact K.2.2.2.2 j hj), hX]
      have s1 : Sc h (sA (tkF h 14 9) 16 f') := by
        unfold tkF
        exact Sc_tr (Sc_tr (Sc_tr (Sc_tr (Sc_A h _ (by decide)) (Sc_A _ _ (by decide))) (Sc_A _ _ (by decide))) (Sc_I _ _ _ (by decide))) (Sc_A _ _ (by decide))
      have eC : f_X6_best 0 x h = some (sel x (mso X (fun o => fg C o C) r (some (X o, fg C o C, 1))), sA (tkF h 14 9) 16 f') := by
        unfold f_X6_best
        rw [eS, if_pos q, R0_3, R0_2, p_take ok, bind_s, o2, bind_s]
        show bnd (f_X4_exceptions 14 (sA (tkF h 14 9) 16 ob)) _ = _
        rw [w4, ex, bnd_s, p_fig (o := o) hC (by rw [sA_ne _ _ (by decide)]; exact K.2.1) (fun j hj => by rw [sA_at, W4_at (by omega), Lo_at hC hj]), bnd_s]
        exact k
      have H1 := Rel_Sc H0 s1
      obtain ⟨lf, l5, l6⟩ := q_lay (sA (tkF h 14 9) 16 f')
      have g43 : (sA (tkF h 14 9) 16 f').1 43 = h.1 43 := s1.2.1 43 (by decide) (by decide) (by decide)
      have B : BM (sA (tkF h 14 9) 16 f') C (SH h 9) (TH h 9) (h.1 12) := by
        have Mk := hW.mk
        refine ⟨hC, by rw [s1.2.2.2 13 (by decide)]; exact hW.2.2.1, fun c k hc hk => by rw [g43]; exact Mk.2.2.2.2.1 c k hc hk, Mk.2.2.2.2.2, fun j hj => by rw [g43]; exact hW.fm j hj⟩
      have NT : NK (sA (tkF h 14 9) 16 f') R E rt en := by
        unfold NK
        rw [s1.2.2.2 11 (by decide), s1.2.2.2 12 (by decide), s1.2.1 48 (by decide) (by decide) (by decide), s1.2.1 49 (by decide) (by decide) (by decide)]
        exact N
      obtain ⟨f2, k2⟩ := q_bL B NT hX x (4 ^ C) FU 0 none lf (by have := pow256 hC; unfold FU; omega) (by omega) (fun t ht => by cases ht) (fun j a b => l5 j b)
      rw [ho, mso] at k2
      refine ⟨_, _, _, eC, ?_, Rel_Sc H1 (Sc_A (i := 44) _ f2 (by decide))⟩
      unfold f_X7_best
      rw [p_in32 _ _ _ 0 2 rfl rfl, bnd_s, ifb, if_pos q, l6, bind_s]
      exact k2
  · refine St_ro H0 (r := -2) ?_ ?_
    · unfold f_X6_best
      rw [eS, if_neg q]
    · unfold f_X7_best
      rw [p_in32 _ _ _ 0 2 rfl rfl, bnd_s, ifb, if_neg q]
