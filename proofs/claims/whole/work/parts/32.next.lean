/-! the next order -/
def W4 (g : Nat → Int32) (L : List Nat) : Nat → Int32 := fun i => if i < 4 then nI (L.getD i 0) else g i
theorem W4_at {g : Nat → Int32} {L : List Nat} {k : Nat} (hk : k < 4) : W4 g L k = nI (L.getD k 0) := by unfold W4; rw [if_pos hk]
theorem W4_upd {g : Nat → Int32} {L : List Nat} (hl : L.length = 4) {k v : Nat} (hk : k < 4) : upd (W4 g L) k (nI v) = W4 g (L.set k v) := by
  funext i
  by_cases q : i = k
  · subst q
    rw [upd_at, W4_at hk]
    simp [List.getD, hl, hk]
  · rw [upd_ne _ _ q]
    unfold W4
    by_cases q2 : i < 4
    · rw [if_pos q2, if_pos q2]
      have : ¬ k = i := fun z => q z.symm
      simp [List.getD, this]
    · rw [if_neg q2, if_neg q2]
theorem okI_lt {x : Int32} {n : Nat} (h : okI x n = true) : x.toNatClampNeg < n := by
  unfold okI at h
  have h2 : ¬ (x < 0 ∨ n ≤ x.toNatClampNeg) := of_decide_eq_true h
  omega
def xG (x y : Int32) (L : List Nat) : Option (List Nat) := if okI x 4 = true then (if okI y 4 = true then some ((L.set x.toNatClampNeg (L.getD y.toNatClampNeg 0)).set y.toNatClampNeg (L.getD x.toNatClampNeg 0)) else none) else none
theorem xG_len {x y : Int32} {L M : List Nat} (hl : L.length = 4) (h : xG x y L = some M) : M.length = 4 := by
  unfold xG at h
  obtain ⟨-, h⟩ := ite_ok h
  obtain ⟨-, h⟩ := ite_ok h
  cases h
  simp [hl]
theorem xG_ok {h : Hp} {g : Nat → Int32} {L : List Nat} (hl : L.length = 4) (x y : Int32) : f_X4_exchange 14 x y (sA h 16 (W4 g L)) = (xG x y L).map (fun M => sA h 16 (W4 g M)) := by
  unfold f_X4_exchange xG
  rw [R14_2, N_16]
  by_cases q1 : okI x 4 = true
  · by_cases q2 : okI y 4 = true
    · simp only [if_pos q1, if_pos q2]
      have h1 := okI_lt q1
      have h2 := okI_lt q2
      rw [sA_at, W4_at h1, W4_at h2, sI_sA, sI_sA, W4_upd hl h1, W4_upd (by simp [hl]) h2]
      rfl
    · simp only [if_pos q1, if_neg q2]; rfl
  · simp only [if_neg q1]; rfl
def nG91 : Nat → Int32 → Int32 → List Nat → Option (Int32 × List Nat)
  | 0, _, _, _ => none
  | n + 1, x3, x4, L => if x4 ≤ x3 then some (1, L) else (xG x3 x4 L).bind (fun M => nG91 n (x3 + 1) (x4 + (-1)) M)
def nG73 (C x1 x2 : Int32) (L : List Nat) : Option (Int32 × List Nat) := (xG x1 x2 L).bind (fun M => nG91 FU (x1 + 1) (C - 1) M)
def nG47 (C : Int32) : Nat → Int32 → Int32 → List Nat → Option (Int32 × List Nat)
  | 0, _, _, _ => none
  | n + 1, x1, x2, L => if x2 ≤ x1 then nG73 C x1 x2 L else (if okI x2 4 = true then (if okI x1 4 = true then (if nI (L.getD x1.toNatClampNeg 0) ≤ nI (L.getD x2.toNatClampNeg 0) then nG73 C x1 x2 L else nG47 C n x1 (x2 + (-1)) L) else none) else none)
def nG34 (C x1 : Int32) (L : List Nat) : Option (Int32 × List Nat) := if 0 ≤ x1 then nG47 C FU x1 (C - 1) L else some (0, L)
def nG7 (C : Int32) : Nat → Int32 → List Nat → Option (Int32 × List Nat)
  | 0, _, _ => none
  | n + 1, x1, L => if x1 < 0 then nG34 C x1 L else (if okI x1 4 = true then (if okI (x1 + 1) 4 = true then (if nI (L.getD x1.toNatClampNeg 0) ≤ nI (L.getD (x1 + 1).toNatClampNeg 0) then nG34 C x1 L else nG7 C n (x1 + (-1)) L) else none) else none)
def nxL (C : Int32) (L : List Nat) : Option (Int32 × List Nat) := nG7 C FU (C - 2) L
theorem c91 {h : Hp} {g : Nat → Int32} : ∀ (n : Nat) (x3 x4 : Int32) (L : List Nat), L.length = 4 → f_X4_goToNextOrder_91 14 n x3 x4 (sA h 16 (W4 g L)) = (nG91 n x3 x4 L).map (fun p => (p.1, sA h 16 (W4 g p.2)))
  | 0, _, _, _, _ => rfl
  | n + 1, x3, x4, L, hl => by
    rw [s_X4_goToNextOrder_91, nG91]
    unfold g_X4_goToNextOrder_91
    by_cases q : x4 ≤ x3
    · rw [if_pos q, if_pos q]; rfl
    · rw [if_neg q, if_neg q, xG_ok hl]
      cases hx : xG x3 x4 L with
      | none => rfl
      | some M => exact c91 n _ _ M (xG_len hl hx)
theorem c73 {h : Hp} {g : Nat → Int32} (x1 x2 : Int32) (L : List Nat) (hl : L.length = 4) : g_X4_goToNextOrder_73 14 x1 x2 (sA h 16 (W4 g L)) = (nG73 (h.1 14 5) x1 x2 L).map (fun p => (p.1, sA h 16 (W4 g p.2))) := by
  unfold g_X4_goToNextOrder_73 nG73
  rw [xG_ok hl]
  cases hx : xG x1 x2 L with
  | none => rfl
  | some M => exact c91 _ _ _ M (xG_len hl hx)
theorem c47 {h : Hp} {g : Nat → Int32} : ∀ (n : Nat) (x1 x2 : Int32) (L : List Nat), L.length = 4 → f_X4_goToNextOrder_47 14 n x1 x2 (sA h 16 (W4 g L)) = (nG47 (h.1 14 5) n x1 x2 L).map (fun p => (p.1, sA h 16 (W4 g p.2)))
  | 0, _, _, _, _ => rfl
  | n + 1, x1, x2, L, hl => by
    rw [s_X4_goToNextOrder_47, nG47]
    unfold g_X4_goToNextOrder_47
    rw [R14_2, N_16, sA_at]
    by_cases q : x2 ≤ x1
    · rw [if_pos q, if_pos q]; exact c73 _ _ _ hl
    · rw [if_neg q, if_neg q]
      by_cases q1 : okI x2 4 = true
      · by_cases q2 : okI x1 4 = true
        · rw [if_pos q1, if_pos q1, if_pos q2, if_pos q2, W4_at (okI_lt q1), W4_at (okI_lt q2)]
          by_cases q3 : nI (L.getD x1.toNatClampNeg 0) ≤ nI (L.getD x2.toNatClampNeg 0)
          · rw [if_pos q3, if_pos q3]; exact c73 _ _ _ hl
          · rw [if_neg q3, if_neg q3]; exact c47 n _ _ L hl
        · rw [if_pos q1, if_pos q1, if_neg q2, if_neg q2]; rfl
      · rw [if_neg q1, if_neg q1]; rfl
theorem c34 {h : Hp} {g : Nat → Int32} (x1 : Int32) (L : List Nat) (hl : L.length = 4) : g_X4_goToNextOrder_34 14 x1 (sA h 16 (W4 g L)) = (nG34 (h.1 14 5) x1 L).map (fun p => (p.1, sA h 16 (W4 g p.2))) := by
  unfold g_X4_goToNextOrder_34 nG34
  by_cases q : 0 ≤ x1
  · rw [if_pos q, if_pos q]; exact c47 _ _ _ L hl
  · rw [if_neg q, if_neg q]; rfl
theorem c7 {h : Hp} {g : Nat → Int32} : ∀ (n : Nat) (x1 : Int32) (L : List Nat), L.length = 4 → f_X4_goToNextOrder_7 14 n x1 (sA h 16 (W4 g L)) = (nG7 (h.1 14 5) n x1 L).map (fun p => (p.1, sA h 16 (W4 g p.2)))
  | 0, _, _, _ => rfl
  | n + 1, x1, L, hl => by
    rw [s_X4_goToNextOrder_7, nG7]
    unfold g_X4_goToNextOrder_7
    rw [R14_2, N_16, sA_at]
    by_cases q : x1 < 0
    · rw [if_pos q, if_pos q]; exact c34 _ _ hl
    · rw [if_neg q, if_neg q]
      by_cases q1 : okI x1 4 = true
      · by_cases q2 : okI (x1 + 1) 4 = true
        · rw [if_pos q1, if_pos q1, if_pos q2, if_pos q2, W4_at (okI_lt q1), W4_at (okI_lt q2)]
          by_cases q3 : nI (L.getD x1.toNatClampNeg 0) ≤ nI (L.getD (x1 + 1).toNatClampNeg 0)
          · rw [if_pos q3, if_pos q3]; exact c34 _ _ hl
          · rw [if_neg q3, if_neg q3]; exact c7 n _ L hl
        · rw [if_pos q1, if_pos q1, if_neg q2, if_neg q2]; rfl
      · rw [if_neg q1, if_neg q1]; rfl
theorem c_next {h : Hp} {g : Nat → Int32} {L : List Nat} (hl : L.length = 4) : f_X4_goToNextOrder 14 (sA h 16 (W4 g L)) = (nxL (h.1 14 5) L).map (fun p => (p.1, sA h 16 (W4 g p.2))) := by
  unfold f_X4_goToNextOrder nxL
  exact c7 _ _ L hl
/-! the orders, one behind the other -/
def Lo (C o : Nat) : List Nat := (List.range 4).map (fun j => if j < C then dgO C o j else j)
theorem Lo_len (C o : Nat) : (Lo C o).length = 4 := rfl
theorem Lo_at {C o j : Nat} (hC : C ≤ 4) (hj : j < C) : (Lo C o).getD j 0 = dgO C o j := by
  unfold Lo
  rcases (show j = 0 ∨ j = 1 ∨ j = 2 ∨ j = 3 by omega) with rfl | rfl | rfl | rfl <;> simp [List.range, List.range.loop, hj]
def oL (C : Nat) : Nat → Nat → List Nat
  | 0, _ => []
  | d + 1, o => if ioB C o = true then o :: oL C d (o + 1) else oL C d (o + 1)
def lk (C : Nat) : Nat → Nat → List Nat → Bool
  | i, o, [] => decide (24 ≤ i) || decide (nxL (nI C) (Lo C o) = some (0, Lo C o))
  | i, o, o' :: r => decide (i < 24) && (decide (nxL (nI C) (Lo C o) = some (1, Lo C o')) && (decide (o' < 4 ^ C) && (ioB C o' && lk C (i + 1) o' r)))
def lkA (C : Nat) : Bool := match oL C (4 ^ C) 0 with
  | [] => false
  | o :: r => decide (Lo C o = [0, 1, 2, 3]) && (decide (o < 4 ^ C) && (ioB C o && lk C 1 o r))
theorem lkA_ok : ∀ C, C ≤ 4 → lkA C = true := by decide +kernel
theorem dgB : ∀ C, C ≤ 4 → ∀ o, o < 4 ^ C → ioB C o = true → ∀ p, p < C → dgO C o p < C := by decide +kernel
