set_option maxHeartbeats 4000000 in
set_option maxRecDepth 100000 in
theorem whole_start {p : Program} {e : Env} {s : State} {m : MethodId} {below : List Frame} {meth : Method} {c : Code} (l : Launch) (hflags : l.flags = flags0) {b L : Nat} {xs : Nat → Int32} (hL : L ≤ 2560) (C0 : lw_At p s m meth c b L xs) : W p l e room_1 s m #[Value.ref b] below meth c s.heap [] 0 0 (lw_Z below #[Value.ref b] s) (entryFrame m ([Value.ref b] : List Value).toArray 4) := by
  obtain ⟨hx, hb, hr, hml, hown, hts, hX, hbl, hlk, hgv⟩ := C0
  have hown : s.vm.findClass RL = some m.cls := hown
  obtain ⟨dC, dI, aC, hK⟩ := law_K hts
  have hN := law_N hts
  have hO := law_O hts
  obtain ⟨fa, hF⟩ := law_F hts hgv
  have hA : ∀ q, s.heap.size ≤ q → nA s q := fun q z => z
  have hS : va_S (nA s) s.heap s.heap [] := va_S.rf
  have hP : va_P (dC, dI) classes [] s.heap := fun k q z => by cases z
  have hD : va_D (nA s) [] := ⟨fun i j p q z => (by cases z), fun k q z => (by cases z)⟩
  have S : CallFix p m c code 4 s #[Value.ref b] lw_tbl RL := ⟨hx, hb, hml, hown, hts⟩
  have hl := lv_entry ([Value.ref b]) (n := 4) (Nat.le_of_ble_eq_true rfl)
  rw [lg_entry_eq]
  generalize (lg_sl ([Value.ref b]) ++ List.replicate (4 - (lg_sl ([Value.ref b])).length) Slot.unset).toArray = ls at hl ⊢
  have hl : lv_has ls 4 [(0, .ref b)] := hl
  refine va_new (D := (dC, dI)) (A := nA s) (ws := []) (ci := 5) (fs := [.null, .null, .null, .null, .null, .null, .null, .null, .long 0]) (C := RX6) (T := TX6) (N := 9) hx hb hts (fun w z => tT_tbl (i_X6 w z)) tyX6 tyX6_ok hown (hts _ (tT_tbl m_46)) (hts _ (tT_tbl m_47)) (hts _ (tT_tbl m_35)) hK hP hD hS hA rfl (fun j hj => by rcases (show j = 0 ∨ j = 1 ∨ j = 2 ∨ j = 3 ∨ j = 4 ∨ j = 5 ∨ j = 6 ∨ j = 7 ∨ j = 8 by omega) with rfl | rfl | rfl | rfl | rfl | rfl | rfl | rfl | rfl <;> rfl) (Nat.le_of_ble_eq_true rfl) (Nat.le_of_ble_eq_true rfl) dL_law_0 (fun qx H hP hD hS => ?_)
  refine W.widen (k := 1) (n := 9) (Nat.le_of_ble_eq_true rfl) (Nat.le_of_ble_eq_true rfl) ?_
  refine lv_dup hx hb dL_law_3 rfl ?_
  refine wi_callI (X := (dC, dI, aC, fun _ => 0)) (As := []) (rest := [.ref qx]) (wc := [(qx, .inr (5, [.null, .null, .null, .null, .null, .null, .null, .null, .long 0]))]) (wr := []) S hK hN hO hP hD hS hA [0] [] rfl rfl rfl rfl (by decide) (by decide) (I_X6_init l (dC, dI, aC, fun _ => 0) qx H.size) (cwI 0 hts (wU_good tTl m_50) rfl rfl rfl (hts _ (tT_tbl m_35)) (hts _ (tT_tbl m_48)) (hts _ (tT_tbl m_49)) rfl hdI_X6_init ⟨Nat.le_of_ble_eq_true rfl, Nat.le_of_ble_eq_true rfl⟩) hl.1 rfl rfl (Nat.le_of_ble_eq_true rfl) dL_law_4 ⟨Nat.le_of_ble_eq_true rfl, Nat.le_of_ble_eq_true rfl⟩ (fun u H locs hpo hP hD hS => ?_)
  refine W.widen (k := 41) (n := 411) (Nat.le_of_ble_eq_true rfl) (Nat.le_of_ble_eq_true rfl) ?_
  refine lv_astore_n (lv' := [(1, .ref qx), (0, .ref b)]) hx hb dL_law_7 rfl hl (by decide) rfl (fun ls hl => ?_)
  have hP : va_P (dC, dI) classes (o_X6_init (dC, dI, aC, fun _ => 0) qx u) H := hP
  have hD : va_D (nA s) (o_X6_init (dC, dI, aC, fun _ => 0) qx u) := hD
  refine va_new (D := (dC, dI)) (A := nA s) (ws := o_X6_init (dC, dI, aC, fun _ => 0) qx u) (ci := 6) (fs := [.null, .int 0, .null, .null, .null, .int 0, .int 0, .null, .null, .null, .null, .int 0, .int 0, .int 0, .null, .null, .null, .int 0, .int 0, .int 0, .int 0, .int 0, .null, .null, .null, .null, .int 0, .long 0, .null, .null]) (C := RX7) (T := TX7) (N := 30) hx hb hts (fun w z => tT_tbl (i_X7 w z)) tyX7 tyX7_ok hown (hts _ (tT_tbl m_614)) (hts _ (tT_tbl m_615)) (hts _ (tT_tbl m_41)) hK hP hD hS hA rfl (fun j hj => by rcases (show j = 0 ∨ j = 1 ∨ j = 2 ∨ j = 3 ∨ j = 4 ∨ j = 5 ∨ j = 6 ∨ j = 7 ∨ j = 8 ∨ j = 9 ∨ j = 10 ∨ j = 11 ∨ j = 12 ∨ j = 13 ∨ j = 14 ∨ j = 15 ∨ j = 16 ∨ j = 17 ∨ j = 18 ∨ j = 19 ∨ j = 20 ∨ j = 21 ∨ j = 22 ∨ j = 23 ∨ j = 24 ∨ j = 25 ∨ j = 26 ∨ j = 27 ∨ j = 28 ∨ j = 29 by omega) with rfl | rfl | rfl | rfl | rfl | rfl | rfl | rfl | rfl | rfl | rfl | rfl | rfl | rfl | rfl | rfl | rfl | rfl | rfl | rfl | rfl | rfl | rfl | rfl | rfl | rfl | rfl | rfl | rfl | rfl <;> rfl) (Nat.le_of_ble_eq_true rfl) (Nat.le_of_ble_eq_true rfl) dL_law_8 (fun qm H hP hD hS => ?_)
  refine W.widen (k := 42) (n := 441) (Nat.le_of_ble_eq_true rfl) (Nat.le_of_ble_eq_true rfl) ?_
  refine lv_dup hx hb dL_law_11 rfl ?_
  refine wi_callI (X := (dC, dI, aC, fun _ => 0)) (As := []) (rest := [.ref qm]) (wc := [(qm, .inr (6, [.null, .int 0, .null, .null, .null, .int 0, .int 0, .null, .null, .null, .null, .int 0, .int 0, .int 0, .null, .null, .null, .int 0, .int 0, .int 0, .int 0, .int 0, .null, .null, .null, .null, .int 0, .long 0, .null, .null]))]) (wr := o_X6_init (dC, dI, aC, fun _ => 0) qx u) S hK hN hO hP hD hS hA [41] [0, 1, 2, 3, 4, 5, 6, 7, 8, 9, 10, 11, 12, 13, 14, 15, 16, 17, 18, 19, 20, 21, 22, 23, 24, 25, 26, 27, 28, 29, 30, 31, 32, 33, 34, 35, 36, 37, 38, 39, 40] rfl rfl rfl rfl (by decide) (by decide) (I_X7_init l (dC, dI, aC, fun _ => 0) qm H.size) (cwI 0 hts (wU_good tTl m_618) rfl rfl rfl (hts _ (tT_tbl m_41)) (hts _ (tT_tbl m_616)) (hts _ (tT_tbl m_617)) rfl hdI_X7_init ⟨Nat.le_of_ble_eq_true rfl, Nat.le_of_ble_eq_true rfl⟩) hl.1 rfl rfl (Nat.le_of_ble_eq_true rfl) dL_law_12 ⟨Nat.le_of_ble_eq_true rfl, Nat.le_of_ble_eq_true rfl⟩ (fun v H locs hpo hP hD hS => ?_)
  refine W.widen (k := 59) (n := 1161) (Nat.le_of_ble_eq_true rfl) (Nat.le_of_ble_eq_true rfl) ?_
  refine lv_astore_n (lv' := [(2, .ref qm), (1, .ref qx), (0, .ref b)]) hx hb dL_law_15 rfl hl (by decide) rfl (fun ls hl => ?_)
  refine lv_iconst (v := 0) hx hb dL_law_16 (by decide) ?_
  refine lv_istore_n (lv' := [(3, .int 0), (2, .ref qm), (1, .ref qx), (0, .ref b)]) hx hb dL_law_17 rfl hl (by decide) rfl (fun ls hl => ?_)
  obtain ⟨p1, p2, p3⟩ := uni qx u qm v hP hD
  have G : LX p s m c b L xs (dC, dI, aC, adr qx u qm v) fa := ⟨S, hK, hN, hX, hbl, hF, hL⟩
  exact L_loop G hlk hr L 0 (by omega) (by omega) H locs ls h00 (lv_sub hl [3, 2, 1, 0] rfl) ⟨p1, hS, p2, p3⟩ Rel00
