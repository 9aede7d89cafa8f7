/-! THE UNIFORM WORLD: 59 cells, whose references never change; a state of it is a table of ints and one of longs -/
abbrev Hp : Type := (Nat → Nat → Int32) × (Nat → Int64)
abbrev Cx : Type := (Nat → ClassId) × (Nat → Nat → Nat) × (Nat → ClassId) × (Nat → Nat)
abbrev classes : List vw_C := [(RX0, TX0, 6), (RX1, TX1, 5), (RX2, TX2, 4), (RX3, TX3, 13), (RX4, TX4, 6), (RX6, TX6, 9), (RX7, TX7, 30)]
/-- what a cell is: a class's number, 100 an array of ints, 101 of booleans, 102 of references -/
def tyL : List Nat := [5, 3, 100, 100, 100, 100, 2, 100, 100, 4, 100, 100, 100, 100, 4, 100, 100, 100, 100, 4, 100, 100, 100, 100, 4, 100, 100, 100, 100, 102, 101, 0, 100, 100, 100, 100, 1, 100, 100, 100, 101, 6, 100, 100, 100, 100, 100, 101, 100, 100, 100, 100, 100, 100, 100, 100, 100, 100, 100]
def tY (i : Nat) : Nat := tyL.getD i 200
def lnL : List Nat := [0, 0, 60, 4, 3, 16, 0, 4, 3, 0, 16, 4, 12, 12, 0, 16, 4, 12, 12, 0, 16, 4, 12, 12, 0, 16, 4, 12, 12, 2, 2, 0, 14, 14, 14, 14, 0, 6, 6, 6, 6, 0, 60, 32, 32, 448, 64, 2, 4, 3, 4, 3, 16, 6, 6, 6, 6, 12, 16]
def lN_ (i : Nat) : Nat := lnL.getD i 0
def rfL : List (List Nat) := [[1, 6, 9, 14, 29, 30, 31, 36, 0], [2, 0, 3, 4, 5], [], [], [], [], [7, 8], [], [], [6, 10, 11, 12, 13], [], [], [], [], [6, 15, 16, 17, 18], [], [], [], [], [6, 20, 21, 22, 23], [], [], [], [], [6, 25, 26, 27, 28], [], [], [], [], [19, 24], [], [32, 33, 34, 35], [], [], [], [], [37, 38, 39, 40], [], [], [], [], [42, 0, 43, 44, 45, 0, 0, 46, 47, 48, 49, 0, 0, 0, 50, 51, 52, 0, 0, 0, 0, 0, 53, 54, 55, 56, 0, 0, 57, 58]]
def rF (i k : Nat) : Nat := (rfL.getD i []).getD k 0
/-- a class's fields: 0 an int, 1 a long, 2 a reference -/
def fkL : List (List Nat) := [[2, 2, 2, 2, 0, 0], [2, 2, 2, 2, 0], [2, 2, 0, 0], [2, 0, 2, 2, 2, 0, 0, 0, 0, 0, 0, 0, 0], [2, 2, 2, 2, 2, 0], [2, 2, 2, 2, 2, 2, 2, 2, 1], [2, 0, 2, 2, 2, 0, 0, 2, 2, 2, 2, 0, 0, 0, 2, 2, 2, 0, 0, 0, 0, 0, 2, 2, 2, 2, 0, 1, 2, 2]]
def fK (c k : Nat) : Nat := (fkL.getD c []).getD k 0
def nF (c : Nat) : Nat := (fkL.getD c []).length
def fV (X : Cx) (h : Hp) (i c k : Nat) : Value := if fK c k = 0 then .int (h.1 i k) else if fK c k = 1 then .long (h.2 i) else .ref (X.2.2.2 (rF i k))
def cE (X : Cx) (h : Hp) (i : Nat) : va_E := if tY i < 100 then .inr (tY i, (List.range (nF (tY i))).map (fV X h i (tY i))) else if tY i = 102 then .inl (X.2.2.1 2, lN_ i, .inr (.inr (.inr (.inr (fun j => some (X.2.2.2 (rF i j))))))) else .inl (X.2.2.1 (tY i - 100), lN_ i, .inl (h.1 i))
def wL (X : Cx) (h : Hp) : va_W := (List.range 59).map (fun i => (X.2.2.2 i, cE X h i))
def wD (X : Cx) : va_G := (X.1, X.2.1)
def tyS (X : Cx) : List (ClassId × FieldType) := [(X.2.2.1 0, .int), (X.2.2.1 1, .boolean), (X.2.2.1 2, .object "WordKin$Ways")]
def Inj (X : Cx) : Prop := ∀ i j : Nat, i < 59 → j < 59 → X.2.2.2 i = X.2.2.2 j → i = j
def AD (X : Cx) : Nat → Prop := fun q => ∃ i : Nat, i < 59 ∧ q = X.2.2.2 i
def Nst (U : State) : Prop := ∀ w ∈ nestW, va_Nw w U
def Wd (X : Cx) (h : Hp) (U : State) : Prop := va_P (wD X) classes (wL X h) U.heap ∧ va_K (wD X) classes (tyS X) U ∧ Nst U
def HS (X : Cx) (A : Nat → Prop) (h : Hp) (s : State) (H : Heap) (locs : List Loc) : Prop := va_P (wD X) classes (wL X h) H ∧ va_S A s.heap H locs ∧ Inj X ∧ ∀ q, AD X q → A q
/-- the tables of a state that is written -/
def sA (h : Hp) (i : Nat) (f : Nat → Int32) : Hp := (fun a => if a = i then f else h.1 a, h.2)
def sI (h : Hp) (i k : Nat) (v : Int32) : Hp := sA h i (upd (h.1 i) k v)
def sL (h : Hp) (i : Nat) (v : Int64) : Hp := (h.1, fun a => if a = i then v else h.2 a)
def okI (j : Int32) (n : Nat) : Bool := decide (¬ (j < 0 ∨ n ≤ j.toNatClampNeg))
def okZ (v : Int32) : Bool := decide (v = 0 ∨ v = 1)
theorem okI_in {j : Int32} {n : Nat} (h : okI j n = true) : vp_in j n := by
  unfold okI at h
  have h2 : ¬ (j < 0 ∨ n ≤ j.toNatClampNeg) := of_decide_eq_true h
  exact h2
theorem okZ_nar {v : Int32} (h : okZ v = true) : narrow .boolean (.int v) = .int v := by
  unfold okZ at h
  rcases of_decide_eq_true h with rfl | rfl <;> rfl
theorem ite_ok {c : Prop} {_ : Decidable c} {α : Type} {a : Option α} {r : α} (h : (if c then a else none) = some r) : c ∧ a = some r := by
  by_cases hc : c
  · rw [if_pos hc] at h; exact ⟨hc, h⟩
  · rw [if_neg hc] at h; cases h
theorem ite_no {c : Prop} {_ : Decidable c} {α : Type} {a : Option α} {r : α} (h : (if c then none else a) = some r) : ¬ c ∧ a = some r := by
  by_cases hc : c
  · rw [if_pos hc] at h; cases h
  · rw [if_neg hc] at h; exact ⟨hc, h⟩
theorem bind_ok {α β : Type} {a : Option α} {f : α → Option β} {r : β} (h : a.bind f = some r) : ∃ q, a = some q ∧ f q = some r := by
  cases a with
  | none => cases h
  | some q => exact ⟨q, rfl, h⟩
theorem tY_lt {i c : Nat} (h : tY i = c) (hc : c < 200) : i < 59 := by
  rcases Nat.lt_or_ge i 59 with q | q
  · exact q
  · exfalso
    have : tY i = 200 := by
      unfold tY
      rw [List.getD_eq_getElem?_getD, List.getElem?_eq_none (by exact q)]
      rfl
    omega
theorem wL_at {X : Cx} {h : Hp} {i : Nat} (hi : i < 59) : (wL X h)[i]? = some (X.2.2.2 i, cE X h i) := by
  simp [wL, hi]
theorem wL_obj {X : Cx} {h : Hp} {i ci : Nat} (hi : tY i = ci) (hc : ci < 100) : (wL X h)[i]? = some (X.2.2.2 i, .inr (ci, (List.range (nF ci)).map (fV X h i ci))) := by
  rw [wL_at (tY_lt hi (by omega))]
  subst hi
  unfold cE
  rw [if_pos hc]
theorem wL_int {X : Cx} {h : Hp} {i : Nat} (hi : tY i = 100) : (wL X h)[i]? = some (X.2.2.2 i, .inl (X.2.2.1 0, lN_ i, .inl (h.1 i))) := by
  rw [wL_at (tY_lt hi (by omega))]
  unfold cE
  rw [if_neg (by omega), if_neg (by omega), hi]
theorem wL_bool {X : Cx} {h : Hp} {i : Nat} (hi : tY i = 101) : (wL X h)[i]? = some (X.2.2.2 i, .inl (X.2.2.1 1, lN_ i, .inl (h.1 i))) := by
  rw [wL_at (tY_lt hi (by omega))]
  unfold cE
  rw [if_neg (by omega), if_neg (by omega), hi]
theorem wL_ref {X : Cx} {h : Hp} {i : Nat} (hi : tY i = 102) : (wL X h)[i]? = some (X.2.2.2 i, .inl (X.2.2.1 2, lN_ i, .inr (.inr (.inr (.inr (fun j => some (X.2.2.2 (rF i j)))))))) := by
  rw [wL_at (tY_lt hi (by omega))]
  unfold cE
  rw [if_neg (by omega), if_pos hi]
theorem wL_set {X : Cx} {h h' : Hp} {i : Nat} {e : va_E} (he : cE X h' i = e) (ho : ∀ j, j ≠ i → cE X h' j = cE X h j) : (wL X h).set i (X.2.2.2 i, e) = wL X h' := by
  apply List.ext_getElem?
  intro j
  rw [List.getElem?_set]
  by_cases hj : i = j
  · subst hj
    rw [if_pos rfl]
    simp only [wL, List.length_map, List.length_range]
    by_cases h9 : i < 59
    · rw [if_pos h9]; simp [h9, he]
    · rw [if_neg h9]; simp [h9]
  · rw [if_neg hj]
    simp only [wL]
    by_cases h9 : j < 59
    · simp [h9, ho j (fun q => hj q.symm)]
    · simp [h9]
theorem fV_other {X : Cx} {h : Hp} {i : Nat} {f : Nat → Int32} {j c k : Nat} (hj : j ≠ i) : fV X (sA h i f) j c k = fV X h j c k := by
  simp [fV, sA, hj]
theorem cE_other {X : Cx} {h : Hp} {i : Nat} {f : Nat → Int32} {j : Nat} (hj : j ≠ i) : cE X (sA h i f) j = cE X h j := by
  have h1 : fV X (sA h i f) j (tY j) = fV X h j (tY j) := funext fun k => fV_other hj
  unfold cE
  rw [h1]
  simp [sA, hj]
theorem cE_otherL {X : Cx} {h : Hp} {i : Nat} {v : Int64} {j : Nat} (hj : j ≠ i) : cE X (sL h i v) j = cE X h j := by
  have h1 : fV X (sL h i v) j (tY j) = fV X h j (tY j) := funext fun k => by simp [fV, sL, hj]
  unfold cE
  rw [h1]
  simp [sL]
theorem cE_int {X : Cx} {h : Hp} {i : Nat} {f : Nat → Int32} (hi : tY i = 100) : cE X (sA h i f) i = .inl (X.2.2.1 0, lN_ i, .inl f) := by
  unfold cE
  rw [if_neg (by omega), if_neg (by omega), hi]
  simp [sA]
theorem cE_bool {X : Cx} {h : Hp} {i : Nat} {f : Nat → Int32} (hi : tY i = 101) : cE X (sA h i f) i = .inl (X.2.2.1 1, lN_ i, .inl f) := by
  unfold cE
  rw [if_neg (by omega), if_neg (by omega), hi]
  simp [sA]
theorem cE_put {X : Cx} {h : Hp} {i ci k : Nat} {v : Int32} (hi : tY i = ci) (hc : ci < 100) (hk : k < nF ci) (hf : fK ci k = 0) : cE X (sI h i k v) i = .inr (ci, ((List.range (nF ci)).map (fV X h i ci)).set k (.int v)) := by
  subst hi
  unfold cE
  rw [if_pos hc]
  congr 2
  apply List.ext_getElem?
  intro j
  rw [List.getElem?_set]
  by_cases hj : k = j
  · subst hj
    simp [hk, fV, hf, sI, sA, upd]
  · rw [if_neg hj]
    by_cases h9 : j < nF (tY i)
    · simp only [List.getElem?_map, List.getElem?_range h9, Option.map_some]
      congr 1
      simp [fV, sI, sA, upd, show ¬ j = k from fun q => hj q.symm]
    · simp [h9]
theorem cE_putL {X : Cx} {h : Hp} {i ci k : Nat} {v : Int64} (hi : tY i = ci) (hc : ci < 100) (hk : k < nF ci) (hf : fK ci k = 1) (hu : ∀ j, j < nF ci → j ≠ k → fK ci j ≠ 1) : cE X (sL h i v) i = .inr (ci, ((List.range (nF ci)).map (fV X h i ci)).set k (.long v)) := by
  subst hi
  unfold cE
  rw [if_pos hc]
  congr 2
  apply List.ext_getElem?
  intro j
  rw [List.getElem?_set]
  by_cases hj : k = j
  · subst hj
    simp [hk, fV, hf, sL]
  · rw [if_neg hj]
    by_cases h9 : j < nF (tY i)
    · simp only [List.getElem?_map, List.getElem?_range h9, Option.map_some]
      congr 1
      simp [fV, sL, hu j h9 (fun q => hj q.symm)]
    · simp [h9]
theorem wL_D {X : Cx} {h : Hp} {A : Nat → Prop} (hI : Inj X) (hA : ∀ q, AD X q → A q) : va_D A (wL X h) := by
  constructor
  · intro i j p q hp hq e
    have hi : i < 59 := by
      have := (List.getElem?_eq_some_iff.mp hp).1
      simpa [wL] using this
    have hj : j < 59 := by
      have := (List.getElem?_eq_some_iff.mp hq).1
      simpa [wL] using this
    rw [wL_at hi] at hp
    rw [wL_at hj] at hq
    cases hp
    cases hq
    exact hI i j hi hj e
  · intro k q hq
    have hk : k < 59 := by
      have := (List.getElem?_eq_some_iff.mp hq).1
      simpa [wL] using this
    rw [wL_at hk] at hq
    cases hq
    exact hA _ ⟨k, hk, rfl⟩
theorem fs_at {X : Cx} {h : Hp} {i ci k : Nat} (hk : k < nF ci) : ((List.range (nF ci)).map (fV X h i ci))[k]? = some (fV X h i ci k) := by
  simp [hk]
section WK
variable {p : Program} {l : Launch} {e : Env} {R : Room} {s : State} {m : MethodId} {args : Array Value} {below : List Frame} {meth : Method} {c : Code} {H : Heap} {locs : List Loc} {cells slots : Nat} {Q : State → Prop} {cc : ByteArray} {pc nL : Nat} {ls : Array Slot} {rest : List Value} {X : Cx} {A : Nat → Prop} {h : Hp} {Ts : List Cond} {own : String}
theorem wk_geti (S : CallFix p m c cc nL s args Ts own) (hK : va_K (wD X) classes (tyS X) s) (hH : HS X A h s H locs) {C : String} {T : u_T} {N ci index i k : Nat} (hin : ∀ w ∈ u_ws C T N, w ∈ Ts) (hi : tY i = ci) (hc : classes[ci]? = some (C, T, N)) (hq : ci < 100 ∧ nF ci = N ∧ k < N ∧ fK ci k = 0) (hlink : (Cond.fieldLink own index (T k).1 (T k).2.1 (T k).2.2.1).before args s = true) (hdg : decode cc pc = .ok (.getfield index, 3))
    (kk : W p l e R s m args below meth c H locs cells slots Q (F0 m (pc + 3) ls (.int (h.1 i k) :: rest))) : W p l e R s m args below meth c H locs cells slots Q (F0 m pc ls (.ref (X.2.2.2 i) :: rest)) := by
  obtain ⟨hx, hb, -, hown, hts⟩ := S
  obtain ⟨h1, h2, h3, h4⟩ := hq
  refine va_get hx hb hts hin hown hK hH.1 i (wL_obj hi h1) hc k h3 hlink (fun _ z => z) (v := .int (h.1 i k)) ?_ hdg kk
  rw [fs_at (by omega)]
  simp [fV, h4]
theorem wk_getl (S : CallFix p m c cc nL s args Ts own) (hK : va_K (wD X) classes (tyS X) s) (hH : HS X A h s H locs) {C : String} {T : u_T} {N ci index i k : Nat} (hin : ∀ w ∈ u_ws C T N, w ∈ Ts) (hi : tY i = ci) (hc : classes[ci]? = some (C, T, N)) (hq : ci < 100 ∧ nF ci = N ∧ k < N ∧ fK ci k = 1) (hlink : (Cond.fieldLink own index (T k).1 (T k).2.1 (T k).2.2.1).before args s = true) (hdg : decode cc pc = .ok (.getfield index, 3))
    (kk : W p l e R s m args below meth c H locs cells slots Q (F0 m (pc + 3) ls (.long (h.2 i) :: rest))) : W p l e R s m args below meth c H locs cells slots Q (F0 m pc ls (.ref (X.2.2.2 i) :: rest)) := by
  obtain ⟨hx, hb, -, hown, hts⟩ := S
  obtain ⟨h1, h2, h3, h4⟩ := hq
  refine va_get hx hb hts hin hown hK hH.1 i (wL_obj hi h1) hc k h3 hlink (fun _ z => z) (v := .long (h.2 i)) ?_ hdg kk
  rw [fs_at (by omega)]
  simp [fV, h4]
theorem wk_getr (S : CallFix p m c cc nL s args Ts own) (hK : va_K (wD X) classes (tyS X) s) (hH : HS X A h s H locs) {C : String} {T : u_T} {N ci index i k : Nat} (hin : ∀ w ∈ u_ws C T N, w ∈ Ts) (hi : tY i = ci) (hc : classes[ci]? = some (C, T, N)) (hq : ci < 100 ∧ nF ci = N ∧ k < N ∧ fK ci k = 2) (hlink : (Cond.fieldLink own index (T k).1 (T k).2.1 (T k).2.2.1).before args s = true) (hdg : decode cc pc = .ok (.getfield index, 3))
    (kk : W p l e R s m args below meth c H locs cells slots Q (F0 m (pc + 3) ls (.ref (X.2.2.2 (rF i k)) :: rest))) : W p l e R s m args below meth c H locs cells slots Q (F0 m pc ls (.ref (X.2.2.2 i) :: rest)) := by
  obtain ⟨hx, hb, -, hown, hts⟩ := S
  obtain ⟨h1, h2, h3, h4⟩ := hq
  refine va_get hx hb hts hin hown hK hH.1 i (wL_obj hi h1) hc k h3 hlink (fun _ z => z) (v := .ref (X.2.2.2 (rF i k))) ?_ hdg kk
  rw [fs_at (by omega)]
  simp [fV, h4]
theorem wk_getiN (S : CallFix p m c cc nL s args Ts own) (hK : va_K (wD X) classes (tyS X) s) (hH : HS X A h s H locs) {C host : String} {T : u_T} {N ci index i k : Nat} (hin : ∀ w ∈ u_ws C T N, w ∈ Ts) (hi : tY i = ci) (hc : classes[ci]? = some (C, T, N)) (hq : ci < 100 ∧ nF ci = N ∧ k < N ∧ fK ci k = 0) (hlink : va_Nw (.fieldLinkNest own index (T k).1 (T k).2.1 (T k).2.2.1 host) s) (hdg : decode cc pc = .ok (.getfield index, 3))
    (kk : W p l e R s m args below meth c H locs cells slots Q (F0 m (pc + 3) ls (.int (h.1 i k) :: rest))) : W p l e R s m args below meth c H locs cells slots Q (F0 m pc ls (.ref (X.2.2.2 i) :: rest)) := by
  obtain ⟨hx, hb, -, hown, hts⟩ := S
  obtain ⟨h1, h2, h3, h4⟩ := hq
  refine va_getN hx hb hts hin hown hK hH.1 i (wL_obj hi h1) hc k h3 (va_Nw.use rfl hlink) (fun _ z => z) (v := .int (h.1 i k)) ?_ hdg kk
  rw [fs_at (by omega)]
  simp [fV, h4]
theorem wk_getrN (S : CallFix p m c cc nL s args Ts own) (hK : va_K (wD X) classes (tyS X) s) (hH : HS X A h s H locs) {C host : String} {T : u_T} {N ci index i k : Nat} (hin : ∀ w ∈ u_ws C T N, w ∈ Ts) (hi : tY i = ci) (hc : classes[ci]? = some (C, T, N)) (hq : ci < 100 ∧ nF ci = N ∧ k < N ∧ fK ci k = 2) (hlink : va_Nw (.fieldLinkNest own index (T k).1 (T k).2.1 (T k).2.2.1 host) s) (hdg : decode cc pc = .ok (.getfield index, 3))
    (kk : W p l e R s m args below meth c H locs cells slots Q (F0 m (pc + 3) ls (.ref (X.2.2.2 (rF i k)) :: rest))) : W p l e R s m args below meth c H locs cells slots Q (F0 m pc ls (.ref (X.2.2.2 i) :: rest)) := by
  obtain ⟨hx, hb, -, hown, hts⟩ := S
  obtain ⟨h1, h2, h3, h4⟩ := hq
  refine va_getN hx hb hts hin hown hK hH.1 i (wL_obj hi h1) hc k h3 (va_Nw.use rfl hlink) (fun _ z => z) (v := .ref (X.2.2.2 (rF i k))) ?_ hdg kk
  rw [fs_at (by omega)]
  simp [fV, h4]
theorem wk_puti (S : CallFix p m c cc nL s args Ts own) (hK : va_K (wD X) classes (tyS X) s) (hH : HS X A h s H locs) {C : String} {T : u_T} {N ci index i k : Nat} {v : Int32} (hin : ∀ w ∈ u_ws C T N, w ∈ Ts) (ty0 : Nat → FieldType) (hty : ∀ k, k < N → parseFieldDescriptor (T k).2.2.1 = some (ty0 k)) (hnm : ∀ a, a < N → ∀ b, b < N → a ≠ b → (T a).2.1 ≠ (T b).2.1) (hi : tY i = ci) (hc : classes[ci]? = some (C, T, N)) (hq : ci < 100 ∧ nF ci = N ∧ k < N ∧ fK ci k = 0) (hfin : (T k).2.2.2 = false) (hd : parseFieldDescriptor (T k).2.2.1 = some .int) (hlink : (Cond.fieldLink own index (T k).1 (T k).2.1 (T k).2.2.1).before args s = true) (hdg : decode cc pc = .ok (.putfield index, 3))
    (kk : ∀ (H1 : Heap) (locs1 : List Loc), HS X A (sI h i k v) s H1 locs1 → W p l e R s m args below meth c H1 locs1 cells slots Q (F0 m (pc + 3) ls rest)) : W p l e R s m args below meth c H locs cells slots Q (F0 m pc ls (.int v :: .ref (X.2.2.2 i) :: rest)) := by
  obtain ⟨hx, hb, -, hown, hts⟩ := S
  obtain ⟨h1, h2, h3, h4⟩ := hq
  refine va_put (A := A) hx hb hts hin ty0 hty hnm hown hK hH.1 (wL_D hH.2.2.1 hH.2.2.2) hH.2.1 i (wL_obj hi h1) hc k h3 hlink (fun _ z => z) hfin hd rfl rfl (by simp [h2, h3]) hdg (fun H1 locs1 hP hD hS => kk H1 locs1 ⟨?_, hS, hH.2.2⟩)
  rw [wL_set (h' := sI h i k v) (cE_put hi h1 (by omega) h4) (fun j hj => cE_other hj)] at hP
  exact hP
theorem wk_putiN (S : CallFix p m c cc nL s args Ts own) (hK : va_K (wD X) classes (tyS X) s) (hH : HS X A h s H locs) {C host : String} {T : u_T} {N ci index i k : Nat} {v : Int32} (hin : ∀ w ∈ u_ws C T N, w ∈ Ts) (ty0 : Nat → FieldType) (hty : ∀ k, k < N → parseFieldDescriptor (T k).2.2.1 = some (ty0 k)) (hnm : ∀ a, a < N → ∀ b, b < N → a ≠ b → (T a).2.1 ≠ (T b).2.1) (hi : tY i = ci) (hc : classes[ci]? = some (C, T, N)) (hq : ci < 100 ∧ nF ci = N ∧ k < N ∧ fK ci k = 0) (hfin : (T k).2.2.2 = false) (hd : parseFieldDescriptor (T k).2.2.1 = some .int) (hlink : va_Nw (.fieldLinkNest own index (T k).1 (T k).2.1 (T k).2.2.1 host) s) (hdg : decode cc pc = .ok (.putfield index, 3))
    (kk : ∀ (H1 : Heap) (locs1 : List Loc), HS X A (sI h i k v) s H1 locs1 → W p l e R s m args below meth c H1 locs1 cells slots Q (F0 m (pc + 3) ls rest)) : W p l e R s m args below meth c H locs cells slots Q (F0 m pc ls (.int v :: .ref (X.2.2.2 i) :: rest)) := by
  obtain ⟨hx, hb, -, hown, hts⟩ := S
  obtain ⟨h1, h2, h3, h4⟩ := hq
  refine va_putN (A := A) hx hb hts hin ty0 hty hnm hown hK hH.1 (wL_D hH.2.2.1 hH.2.2.2) hH.2.1 i (wL_obj hi h1) hc k h3 (va_Nw.use rfl hlink) (fun _ z => z) hfin hd rfl rfl (by simp [h2, h3]) hdg (fun H1 locs1 hP hD hS => kk H1 locs1 ⟨?_, hS, hH.2.2⟩)
  rw [wL_set (h' := sI h i k v) (cE_put hi h1 (by omega) h4) (fun j hj => cE_other hj)] at hP
  exact hP
theorem wk_putl (S : CallFix p m c cc nL s args Ts own) (hK : va_K (wD X) classes (tyS X) s) (hH : HS X A h s H locs) {C : String} {T : u_T} {N ci index i k : Nat} {v : Int64} (hin : ∀ w ∈ u_ws C T N, w ∈ Ts) (ty0 : Nat → FieldType) (hty : ∀ k, k < N → parseFieldDescriptor (T k).2.2.1 = some (ty0 k)) (hnm : ∀ a, a < N → ∀ b, b < N → a ≠ b → (T a).2.1 ≠ (T b).2.1) (hi : tY i = ci) (hc : classes[ci]? = some (C, T, N)) (hq : ci < 100 ∧ nF ci = N ∧ k < N ∧ fK ci k = 1 ∧ ∀ j, j < nF ci → j ≠ k → fK ci j ≠ 1) (hfin : (T k).2.2.2 = false) (hd : parseFieldDescriptor (T k).2.2.1 = some .long) (hlink : (Cond.fieldLink own index (T k).1 (T k).2.1 (T k).2.2.1).before args s = true) (hdg : decode cc pc = .ok (.putfield index, 3))
    (kk : ∀ (H1 : Heap) (locs1 : List Loc), HS X A (sL h i v) s H1 locs1 → W p l e R s m args below meth c H1 locs1 cells slots Q (F0 m (pc + 3) ls rest)) : W p l e R s m args below meth c H locs cells slots Q (F0 m pc ls (.long v :: .ref (X.2.2.2 i) :: rest)) := by
  obtain ⟨hx, hb, -, hown, hts⟩ := S
  obtain ⟨h1, h2, h3, h4, h5⟩ := hq
  refine va_put (A := A) hx hb hts hin ty0 hty hnm hown hK hH.1 (wL_D hH.2.2.1 hH.2.2.2) hH.2.1 i (wL_obj hi h1) hc k h3 hlink (fun _ z => z) hfin hd rfl rfl (by simp [h2, h3]) hdg (fun H1 locs1 hP hD hS => kk H1 locs1 ⟨?_, hS, hH.2.2⟩)
  rw [wL_set (h' := sL h i v) (cE_putL hi h1 (by omega) h4 h5) (fun j hj => cE_otherL hj)] at hP
  exact hP
theorem wk_iald (S : CallFix p m c cc nL s args Ts own) (hK : va_K (wD X) classes (tyS X) s) (hH : HS X A h s H locs) {i : Nat} {j : Int32} (hi : tY i = 100) (hj : okI j (lN_ i) = true) (hdg : decode cc pc = .ok (.iaload, 1))
    (kk : W p l e R s m args below meth c H locs cells slots Q (F0 m (pc + 1) ls (.int (h.1 i j.toNatClampNeg) :: rest))) : W p l e R s m args below meth c H locs cells slots Q (F0 m pc ls (.int j :: .ref (X.2.2.2 i) :: rest)) :=
  va_iald S.1 S.2.1 hK hH.1 i 0 (wL_int hi) rfl (okI_in hj) hdg kk
theorem wk_zald (S : CallFix p m c cc nL s args Ts own) (hK : va_K (wD X) classes (tyS X) s) (hH : HS X A h s H locs) {i : Nat} {j : Int32} (hi : tY i = 101) (hj : okI j (lN_ i) = true) (hdg : decode cc pc = .ok (.baload, 1))
    (kk : W p l e R s m args below meth c H locs cells slots Q (F0 m (pc + 1) ls (.int (h.1 i j.toNatClampNeg) :: rest))) : W p l e R s m args below meth c H locs cells slots Q (F0 m pc ls (.int j :: .ref (X.2.2.2 i) :: rest)) :=
  va_zald S.1 S.2.1 hK hH.1 i 1 (wL_bool hi) rfl (okI_in hj) hdg kk
theorem wk_aald (S : CallFix p m c cc nL s args Ts own) (hK : va_K (wD X) classes (tyS X) s) (hH : HS X A h s H locs) {i : Nat} {j : Int32} (hi : tY i = 102) (hj : okI j (lN_ i) = true) (hdg : decode cc pc = .ok (.aaload, 1))
    (kk : W p l e R s m args below meth c H locs cells slots Q (F0 m (pc + 1) ls (.ref (X.2.2.2 (rF i j.toNatClampNeg)) :: rest))) : W p l e R s m args below meth c H locs cells slots Q (F0 m pc ls (.int j :: .ref (X.2.2.2 i) :: rest)) :=
  va_aldq S.1 S.2.1 hK hH.1 i 2 (wL_ref hi) rfl (okI_in hj) hdg kk
theorem wk_alen (S : CallFix p m c cc nL s args Ts own) (hK : va_K (wD X) classes (tyS X) s) (hH : HS X A h s H locs) {i : Nat} (hi : tY i = 100) (hdg : decode cc pc = .ok (.arraylength, 1))
    (kk : W p l e R s m args below meth c H locs cells slots Q (F0 m (pc + 1) ls (.int (Int32.ofNat (lN_ i)) :: rest))) : W p l e R s m args below meth c H locs cells slots Q (F0 m pc ls (.ref (X.2.2.2 i) :: rest)) :=
  va_alen S.1 S.2.1 hK hH.1 i 0 (wL_int hi) (ty := .int) rfl rfl hdg kk
theorem wk_iast (S : CallFix p m c cc nL s args Ts own) (hK : va_K (wD X) classes (tyS X) s) (hH : HS X A h s H locs) {i : Nat} {j x : Int32} (hi : tY i = 100) (hj : okI j (lN_ i) = true) (hdg : decode cc pc = .ok (.iastore, 1))
    (kk : ∀ (H1 : Heap) (locs1 : List Loc), HS X A (sI h i j.toNatClampNeg x) s H1 locs1 → W p l e R s m args below meth c H1 locs1 cells slots Q (F0 m (pc + 1) ls rest)) : W p l e R s m args below meth c H locs cells slots Q (F0 m pc ls (.int x :: .int j :: .ref (X.2.2.2 i) :: rest)) := by
  refine va_iast (A := A) S.1 S.2.1 hK hH.1 (wL_D hH.2.2.1 hH.2.2.2) hH.2.1 i 0 (wL_int hi) rfl (okI_in hj) hdg (fun H1 locs1 hP hD hS => kk H1 locs1 ⟨?_, hS, hH.2.2⟩)
  rw [wL_set (h' := sI h i j.toNatClampNeg x) (cE_int hi) (fun j hj => cE_other hj)] at hP
  exact hP
theorem wk_zast (S : CallFix p m c cc nL s args Ts own) (hK : va_K (wD X) classes (tyS X) s) (hH : HS X A h s H locs) {i : Nat} {j x : Int32} (hi : tY i = 101) (hj : okI j (lN_ i) = true) (hdg : decode cc pc = .ok (.bastore, 1))
    (kk : ∀ (H1 : Heap) (locs1 : List Loc), HS X A (sI h i j.toNatClampNeg (vp_nar .boolean x)) s H1 locs1 → W p l e R s m args below meth c H1 locs1 cells slots Q (F0 m (pc + 1) ls rest)) : W p l e R s m args below meth c H locs cells slots Q (F0 m pc ls (.int x :: .int j :: .ref (X.2.2.2 i) :: rest)) := by
  refine va_zast (A := A) S.1 S.2.1 hK hH.1 (wL_D hH.2.2.1 hH.2.2.2) hH.2.1 i 1 (wL_bool hi) rfl (okI_in hj) hdg (fun H1 locs1 hP hD hS => kk H1 locs1 ⟨?_, hS, hH.2.2⟩)
  rw [wL_set (h' := sI h i j.toNatClampNeg (vp_nar .boolean x)) (cE_bool hi) (fun j hj => cE_other hj)] at hP
  exact hP
/-- System.arraycopy from place 0 to place 0 of arrays of ints -/
theorem wk_copy (S : CallFix p m c cc nL s args Ts own) (hK : va_K (wD X) classes (tyS X) s) (hH : HS X A h s H locs) {i j index : Nat} {n : Int32} (hsz : ls.size = nL) (hi : tY i = 100) (hj : tY j = 100) (hn : ¬ n < 0) (h1 : n.toNatClampNeg ≤ lN_ i) (h2 : n.toNatClampNeg ≤ lN_ j) (hlink : (Cond.methodLink own index arraycopyName).before args s = true) (hnat : (Cond.native arraycopyName).before args s = true) (hstat : (Cond.static arraycopyName).before args s = true) (hini : (Cond.initialized "java/lang/System").before args s = true) (hframes : 1 ≤ R.frames) (hlocals : (rest.map fun v => v.category).sum + (nativeFrameWords "java/lang/System" "arraycopy" 5 + 11) ≤ R.locals) (hdg : decode cc pc = .ok (.invokestatic index, 3))
    (kk : ∀ (H1 : Heap) (locs1 : List Loc), HS X A (sA h j (va_cpy (h.1 i) (h.1 j) 0 0 n.toNatClampNeg)) s H1 locs1 → W p l e R s m args below meth c H1 locs1 cells slots Q (F0 m (pc + 3) ls rest)) : W p l e R s m args below meth c H locs cells slots Q (F0 m pc ls (.int n :: .int 0 :: .ref (X.2.2.2 j) :: .int 0 :: .ref (X.2.2.2 i) :: rest)) := by
  refine va_copyi (A := A) S.1 S.2.1 (by rw [S.2.2.1, hsz]) S.2.2.2.1 hlink hnat hstat hini hK hH.1 (wL_D hH.2.2.1 hH.2.2.2) hH.2.1 i j 0 0 (wL_int hi) (wL_int hj) rfl rfl rfl (sp := 0) (dp := 0) (by decide) (by decide) hn (by simpa using h1) (by simpa using h2) (fun _ _ => rfl) hframes hlocals hdg (fun H1 locs1 hP hD hS => kk H1 locs1 ⟨?_, hS, hH.2.2⟩)
  rw [show Int32.toNatClampNeg 0 = 0 from rfl, wL_set (h' := sA h j (va_cpy (h.1 i) (h.1 j) 0 0 n.toNatClampNeg)) (cE_int hj) (fun j hj => cE_other hj)] at hP
  exact hP
end WK
