def fl (a : Nat) : Nat → (Nat → Int32) → (Nat → Int32)
  | 0, f => f
  | n + 1, f => upd (fl a n f) (a + n) (-9)
section WV
variable {p : Program} {l : Launch} {e : Env} {R : Room} {s : State} {m : MethodId} {args : Array Value} {below : List Frame} {meth : Method} {c : Code} {H H0 : Heap} {locs : List Loc} {cells slots : Nat} {Q : State → Prop} {cc : ByteArray} {pc nL : Nat} {ls : Array Slot} {rest st0 : List Value} {X : Cx} {A : Nat → Prop} {Ts : List Cond} {own : String} {ws : va_W}
variable {y : MethodName} {bytes : ByteArray} {maxL index n fr lo k z : Nat} {As : List Value} {b ci : Nat} {wc wr : va_W}
theorem wi_callV {C : String} {T0 : u_T} {N : Nat} {fs : List Value} (S : CallFix p m c cc nL s args Ts own) (hK : va_K (wD X) classes (tyS X) s) (hN : Nst s) (hO : va_AO "WordKin$Ways" s) (hP : va_P (wD X) classes ws H) (hD : va_D A ws) (hS : va_S A H0 H locs) (hA : ∀ q, H0.size ≤ q → A q) (isC isR : List Nat) (hPc : isC.filterMap (fun i => ws[i]?) = wc) (hC : isC.map (fun i => ws[i]?) = wc.map some) (hndC : va_nd isC = true) (hR : isR.map (fun i => ws[i]?) = wr.map some) (hnd : va_nd isR = true) (hdis : ∀ i ∈ isR, i ∉ isC)
    (hcl : classes[ci]? = some (C, T0, N)) (he : wc[0]? = some (b, .inr (ci, fs))) {T : Type} {post : T → Prop} {out : T → va_W} (hM : Mn l X y bytes maxL fr lo k z (.ref b :: As) wc H.size post out) (cw : CallW R s args own C index y bytes maxL none (wU y bytes maxL none) ({ frames := fr, cells := k, slots := z, locals := lo }) k z n) (hsz : ls.size = nL) (hn : As.length = n) (hst : st0 = As.reverse ++ .ref b :: rest) (hw : (rest.map fun v => v.category).sum ≤ 8) (hdg : decode cc pc = .ok (.invokevirtual index, 3)) (hroom : cells + k ≤ R.cells ∧ slots + z ≤ R.slots)
    (kk : ∀ (u : T) (H1 : Heap) (locs1 : List Loc), post u → va_P (wD X) classes (wr ++ out u) H1 → va_D A (wr ++ out u) → va_S A H0 H1 locs1 → W p l e R s m args below meth c H1 locs1 (cells + k) (slots + z) Q (F0 m (pc + 3) ls rest)) : W p l e R s m args below meth c H locs cells slots Q (F0 m pc ls st0) := by
  subst hst
  have hFc := va_free (wc := wc) hD hS hA isC hC
  have hPw := hP.sub isC hPc
  refine va_callv (va_runV S hM cw ⟨iPre_blind, va_recv hK hPw hcl he, (wi_pre (av := .ref b :: As) hK hN hO hPw (hD.sub isC hndC hC)).2⟩ rfl hn hsz rfl (lv_room hw) hdg hroom) hS (fun q _ h => hFc q h) hFc (fun u t H1 locs1 ht hvm hp hB hz hk hS => ?_)
  obtain ⟨hP1, hD1⟩ := hB
  rw [ht] at hP1
  obtain ⟨p2, d2⟩ := va_join (wr := wr) (w1 := out u) hP hD isC isR hC hR hnd hdis hk hFc hP1 hD1
  exact kk u H1 locs1 hp p2 d2 hS
end WV
theorem hdI_X3_init : yX3_init.cls ≠ "java/lang/invoke/MethodHandle" ∧ yX3_init.cls ≠ "java/lang/invoke/VarHandle" ∧ (parseMethodDescriptor yX3_init.desc).map (fun d => d.parameters.length) = some 0 := by decide +kernel
def o_X3_init (X : Cx) (h0 : Nat) : Nat × Nat × Nat × Nat → va_W := fun u => [(h0, .inr (3, [.ref u.1, .int 0, .ref u.2.1, .ref u.2.2.1, .ref u.2.2.2, .int 0, .int 0, .int 0, .int 0, .int 0, .int 0, .int 0, .int 0])), (u.1, .inl (X.2.2.1 0, 60, .inl (fun _ => 0))), (u.2.1, .inl (X.2.2.1 0, 4, .inl (fun _ => 0))), (u.2.2.1, .inl (X.2.2.1 0, 3, .inl (fun _ => 0))), (u.2.2.2, .inl (X.2.2.1 0, 16, .inl (fun _ => 0)))]
set_option maxHeartbeats 4000000 in
set_option maxRecDepth 100000 in
theorem I_X3_init (l : Launch) (X : Cx) (h0 sz : Nat) : Mn l X yX3_init cX3_init 1 1 12 4 83 [.ref h0] [(h0, .inr (3, [.null, .int 0, .null, .null, .null, .int 0, .int 0, .int 0, .int 0, .int 0, .int 0, .int 0, .int 0]))] sz (fun _ : Nat × Nat × Nat × Nat => True) (o_X3_init X h0) := by
  unfold Mn
  refine Met.ofW (cc := cX3_init) (maxL := 1) (ret := none) (by decide) rfl ?_
  intro p e s m args below meth c s₁ B hml hv
  obtain ⟨rfl, hsz, hP, hK, hD0, hN, hO⟩ := hv
  have hx := B.exec
  have hb := B.bytes
  have hr := B.returns
  have hts := atoms_spec (ws := wU yX3_init cX3_init 1 none) B.pre
  have hown : s.vm.findClass RX3 = some m.cls := findClass_of_methodNamed B.named
  have hlocks := B.notSynchronized
  have hin : meth.name = "<init>" := (name_of_methodNamed B.named B.method).1
  subst hsz
  have hD := hD0.self (sz := s.heap.size)
  generalize hAe : va_A [(h0, .inr (3, [.null, .int 0, .null, .null, .null, .int 0, .int 0, .int 0, .int 0, .int 0, .int 0, .int 0, .int 0]))] s.heap.size = A at hD ⊢
  have hA : ∀ q : Nat, s.heap.size ≤ q → A q := fun q h => by rw [← hAe]; exact Or.inr h
  have hS : va_S A s.heap s.heap [] := va_S.rf
  have hP : va_P (wD X) classes [(h0, .inr (3, [.null, .int 0, .null, .null, .null, .int 0, .int 0, .int 0, .int 0, .int 0, .int 0, .int 0, .int 0]))] s.heap := hP
  have hl := lv_entry ([.ref h0]) (n := 1) (Nat.le_of_ble_eq_true rfl)
  rw [lg_entry_eq]
  generalize (lg_sl ([.ref h0]) ++ List.replicate (1 - (lg_sl ([.ref h0])).length) Slot.unset).toArray = ls at hl ⊢
  have hl : lv_has ls 1 [(0, .ref h0)] := hl
  refine lv_aload_n hx hb dX3_init_0 rfl (lv_at hl 0 rfl) ?_
  refine W.objInit hx hb hown (hts _ (wU_in _ m_59)) (hts _ (wU_in _ m_52)) (hts _ (wU_in _ m_53)) rfl (by rw [hml]; exact hl.1) rfl dX3_init_1 (Nat.le_of_ble_eq_true rfl) (Nat.le_of_ble_eq_true rfl) ?_
  refine W.eq (g2 := F0 m 4 ls []) rfl ?_
  refine lv_aload_n hx hb dX3_init_4 rfl (lv_at hl 0 rfl) ?_
  refine lv_bipush (v := 60) hx hb dX3_init_5 (by decide) ?_
  refine wi_int hx hb (hts _ (wU_in _ m_110)) hK hP hD hS hA 60 (by decide) rfl (Nat.le_of_ble_eq_true rfl) (Nat.le_of_ble_eq_true rfl) (Nat.le_of_ble_eq_true rfl) dX3_init_7 (fun q0 H hP hD hS => ?_)
  have hP : va_P (wD X) classes [(h0, .inr (3, [.null, .int 0, .null, .null, .null, .int 0, .int 0, .int 0, .int 0, .int 0, .int 0, .int 0, .int 0])), (q0, .inl (X.2.2.1 0, 60, .inl (fun _ => 0)))] H := hP
  have hD : va_D A [(h0, .inr (3, [.null, .int 0, .null, .null, .null, .int 0, .int 0, .int 0, .int 0, .int 0, .int 0, .int 0, .int 0])), (q0, .inl (X.2.2.1 0, 60, .inl (fun _ => 0)))] := hD
  refine W.widen (k := 1) (n := 60) (Nat.le_of_ble_eq_true rfl) (Nat.le_of_ble_eq_true rfl) ?_
  refine va_putF (D := wD X) (ci := 3) (v := .ref q0) (ty := .array .int) (C := RX3) (T := TX3) (N := 13) hx hb hts j_X3 tyX3 tyX3_ok nmX3 hown hK hP hD hS 0 rfl rfl 0 (by decide) (hts _ (wU_in _ m_60)) (fun _ h9 => h9) rfl hin rfl (by decide +kernel) rfl rfl (Nat.le_of_ble_eq_true rfl) dX3_init_9 (fun H locs hP hD hS => ?_)
  have hP : va_P (wD X) classes [(h0, .inr (3, [.ref q0, .int 0, .null, .null, .null, .int 0, .int 0, .int 0, .int 0, .int 0, .int 0, .int 0, .int 0])), (q0, .inl (X.2.2.1 0, 60, .inl (fun _ => 0)))] H := hP
  have hD : va_D A [(h0, .inr (3, [.ref q0, .int 0, .null, .null, .null, .int 0, .int 0, .int 0, .int 0, .int 0, .int 0, .int 0, .int 0])), (q0, .inl (X.2.2.1 0, 60, .inl (fun _ => 0)))] := hD
  refine lv_aload_n hx hb dX3_init_12 rfl (lv_at hl 0 rfl) ?_
  refine lv_iconst (v := 4) hx hb dX3_init_13 (by decide) ?_
  refine wi_int hx hb (hts _ (wU_in _ m_110)) hK hP hD hS hA 4 (by decide) rfl (Nat.le_of_ble_eq_true rfl) (Nat.le_of_ble_eq_true rfl) (Nat.le_of_ble_eq_true rfl) dX3_init_14 (fun q1 H hP hD hS => ?_)
  have hP : va_P (wD X) classes [(h0, .inr (3, [.ref q0, .int 0, .null, .null, .null, .int 0, .int 0, .int 0, .int 0, .int 0, .int 0, .int 0, .int 0])), (q0, .inl (X.2.2.1 0, 60, .inl (fun _ => 0))), (q1, .inl (X.2.2.1 0, 4, .inl (fun _ => 0)))] H := hP
  have hD : va_D A [(h0, .inr (3, [.ref q0, .int 0, .null, .null, .null, .int 0, .int 0, .int 0, .int 0, .int 0, .int 0, .int 0, .int 0])), (q0, .inl (X.2.2.1 0, 60, .inl (fun _ => 0))), (q1, .inl (X.2.2.1 0, 4, .inl (fun _ => 0)))] := hD
  refine W.widen (k := 2) (n := 64) (Nat.le_of_ble_eq_true rfl) (Nat.le_of_ble_eq_true rfl) ?_
  refine va_putF (D := wD X) (ci := 3) (v := .ref q1) (ty := .array .int) (C := RX3) (T := TX3) (N := 13) hx hb hts j_X3 tyX3 tyX3_ok nmX3 hown hK hP hD hS 0 rfl rfl 2 (by decide) (hts _ (wU_in _ m_63)) (fun _ h9 => h9) rfl hin rfl (by decide +kernel) rfl rfl (Nat.le_of_ble_eq_true rfl) dX3_init_16 (fun H locs hP hD hS => ?_)
  have hP : va_P (wD X) classes [(h0, .inr (3, [.ref q0, .int 0, .ref q1, .null, .null, .int 0, .int 0, .int 0, .int 0, .int 0, .int 0, .int 0, .int 0])), (q0, .inl (X.2.2.1 0, 60, .inl (fun _ => 0))), (q1, .inl (X.2.2.1 0, 4, .inl (fun _ => 0)))] H := hP
  have hD : va_D A [(h0, .inr (3, [.ref q0, .int 0, .ref q1, .null, .null, .int 0, .int 0, .int 0, .int 0, .int 0, .int 0, .int 0, .int 0])), (q0, .inl (X.2.2.1 0, 60, .inl (fun _ => 0))), (q1, .inl (X.2.2.1 0, 4, .inl (fun _ => 0)))] := hD
  refine lv_aload_n hx hb dX3_init_19 rfl (lv_at hl 0 rfl) ?_
  refine lv_iconst (v := 3) hx hb dX3_init_20 (by decide) ?_
  refine wi_int hx hb (hts _ (wU_in _ m_110)) hK hP hD hS hA 3 (by decide) rfl (Nat.le_of_ble_eq_true rfl) (Nat.le_of_ble_eq_true rfl) (Nat.le_of_ble_eq_true rfl) dX3_init_21 (fun q2 H hP hD hS => ?_)
  have hP : va_P (wD X) classes [(h0, .inr (3, [.ref q0, .int 0, .ref q1, .null, .null, .int 0, .int 0, .int 0, .int 0, .int 0, .int 0, .int 0, .int 0])), (q0, .inl (X.2.2.1 0, 60, .inl (fun _ => 0))), (q1, .inl (X.2.2.1 0, 4, .inl (fun _ => 0))), (q2, .inl (X.2.2.1 0, 3, .inl (fun _ => 0)))] H := hP
  have hD : va_D A [(h0, .inr (3, [.ref q0, .int 0, .ref q1, .null, .null, .int 0, .int 0, .int 0, .int 0, .int 0, .int 0, .int 0, .int 0])), (q0, .inl (X.2.2.1 0, 60, .inl (fun _ => 0))), (q1, .inl (X.2.2.1 0, 4, .inl (fun _ => 0))), (q2, .inl (X.2.2.1 0, 3, .inl (fun _ => 0)))] := hD
  refine W.widen (k := 3) (n := 67) (Nat.le_of_ble_eq_true rfl) (Nat.le_of_ble_eq_true rfl) ?_
  refine va_putF (D := wD X) (ci := 3) (v := .ref q2) (ty := .array .int) (C := RX3) (T := TX3) (N := 13) hx hb hts j_X3 tyX3 tyX3_ok nmX3 hown hK hP hD hS 0 rfl rfl 3 (by decide) (hts _ (wU_in _ m_65)) (fun _ h9 => h9) rfl hin rfl (by decide +kernel) rfl rfl (Nat.le_of_ble_eq_true rfl) dX3_init_23 (fun H locs hP hD hS => ?_)
  have hP : va_P (wD X) classes [(h0, .inr (3, [.ref q0, .int 0, .ref q1, .ref q2, .null, .int 0, .int 0, .int 0, .int 0, .int 0, .int 0, .int 0, .int 0])), (q0, .inl (X.2.2.1 0, 60, .inl (fun _ => 0))), (q1, .inl (X.2.2.1 0, 4, .inl (fun _ => 0))), (q2, .inl (X.2.2.1 0, 3, .inl (fun _ => 0)))] H := hP
  have hD : va_D A [(h0, .inr (3, [.ref q0, .int 0, .ref q1, .ref q2, .null, .int 0, .int 0, .int 0, .int 0, .int 0, .int 0, .int 0, .int 0])), (q0, .inl (X.2.2.1 0, 60, .inl (fun _ => 0))), (q1, .inl (X.2.2.1 0, 4, .inl (fun _ => 0))), (q2, .inl (X.2.2.1 0, 3, .inl (fun _ => 0)))] := hD
  refine lv_aload_n hx hb dX3_init_26 rfl (lv_at hl 0 rfl) ?_
  refine lv_bipush (v := 16) hx hb dX3_init_27 (by decide) ?_
  refine wi_int hx hb (hts _ (wU_in _ m_110)) hK hP hD hS hA 16 (by decide) rfl (Nat.le_of_ble_eq_true rfl) (Nat.le_of_ble_eq_true rfl) (Nat.le_of_ble_eq_true rfl) dX3_init_29 (fun q3 H hP hD hS => ?_)
  have hP : va_P (wD X) classes [(h0, .inr (3, [.ref q0, .int 0, .ref q1, .ref q2, .null, .int 0, .int 0, .int 0, .int 0, .int 0, .int 0, .int 0, .int 0])), (q0, .inl (X.2.2.1 0, 60, .inl (fun _ => 0))), (q1, .inl (X.2.2.1 0, 4, .inl (fun _ => 0))), (q2, .inl (X.2.2.1 0, 3, .inl (fun _ => 0))), (q3, .inl (X.2.2.1 0, 16, .inl (fun _ => 0)))] H := hP
  have hD : va_D A [(h0, .inr (3, [.ref q0, .int 0, .ref q1, .ref q2, .null, .int 0, .int 0, .int 0, .int 0, .int 0, .int 0, .int 0, .int 0])), (q0, .inl (X.2.2.1 0, 60, .inl (fun _ => 0))), (q1, .inl (X.2.2.1 0, 4, .inl (fun _ => 0))), (q2, .inl (X.2.2.1 0, 3, .inl (fun _ => 0))), (q3, .inl (X.2.2.1 0, 16, .inl (fun _ => 0)))] := hD
  refine W.widen (k := 4) (n := 83) (Nat.le_of_ble_eq_true rfl) (Nat.le_of_ble_eq_true rfl) ?_
  refine va_putF (D := wD X) (ci := 3) (v := .ref q3) (ty := .array .int) (C := RX3) (T := TX3) (N := 13) hx hb hts j_X3 tyX3 tyX3_ok nmX3 hown hK hP hD hS 0 rfl rfl 4 (by decide) (hts _ (wU_in _ m_67)) (fun _ h9 => h9) rfl hin rfl (by decide +kernel) rfl rfl (Nat.le_of_ble_eq_true rfl) dX3_init_31 (fun H locs hP hD hS => ?_)
  have hP : va_P (wD X) classes [(h0, .inr (3, [.ref q0, .int 0, .ref q1, .ref q2, .ref q3, .int 0, .int 0, .int 0, .int 0, .int 0, .int 0, .int 0, .int 0])), (q0, .inl (X.2.2.1 0, 60, .inl (fun _ => 0))), (q1, .inl (X.2.2.1 0, 4, .inl (fun _ => 0))), (q2, .inl (X.2.2.1 0, 3, .inl (fun _ => 0))), (q3, .inl (X.2.2.1 0, 16, .inl (fun _ => 0)))] H := hP
  have hD : va_D A [(h0, .inr (3, [.ref q0, .int 0, .ref q1, .ref q2, .ref q3, .int 0, .int 0, .int 0, .int 0, .int 0, .int 0, .int 0, .int 0])), (q0, .inl (X.2.2.1 0, 60, .inl (fun _ => 0))), (q1, .inl (X.2.2.1 0, 4, .inl (fun _ => 0))), (q2, .inl (X.2.2.1 0, 3, .inl (fun _ => 0))), (q3, .inl (X.2.2.1 0, 16, .inl (fun _ => 0)))] := hD
  exact W.vret hx hb hr (fun t ht hW => ⟨⟨(q0, q1, q2, q3), rfl, trivial, by rw [ht]; exact hP, hD⟩, hS.F ht⟩) hS.2.2 dX3_init_34
theorem hdI_X2_init : yX2_init.cls ≠ "java/lang/invoke/MethodHandle" ∧ yX2_init.cls ≠ "java/lang/invoke/VarHandle" ∧ (parseMethodDescriptor yX2_init.desc).map (fun d => d.parameters.length) = some 0 := by decide +kernel
def o_X2_init (X : Cx) (h0 : Nat) : Nat × Nat → va_W := fun u => [(h0, .inr (2, [.ref u.1, .ref u.2, .int 0, .int 0])), (u.1, .inl (X.2.2.1 0, 4, .inl (fun _ => 0))), (u.2, .inl (X.2.2.1 0, 3, .inl (fun _ => 0)))]
set_option maxHeartbeats 4000000 in
set_option maxRecDepth 100000 in
theorem I_X2_init (l : Launch) (X : Cx) (h0 sz : Nat) : Mn l X yX2_init cX2_init 1 1 12 2 7 [.ref h0] [(h0, .inr (2, [.null, .null, .int 0, .int 0]))] sz (fun _ : Nat × Nat => True) (o_X2_init X h0) := by
  unfold Mn
  refine Met.ofW (cc := cX2_init) (maxL := 1) (ret := none) (by decide) rfl ?_
  intro p e s m args below meth c s₁ B hml hv
  obtain ⟨rfl, hsz, hP, hK, hD0, hN, hO⟩ := hv
  have hx := B.exec
  have hb := B.bytes
  have hr := B.returns
  have hts := atoms_spec (ws := wU yX2_init cX2_init 1 none) B.pre
  have hown : s.vm.findClass RX2 = some m.cls := findClass_of_methodNamed B.named
  have hlocks := B.notSynchronized
  have hin : meth.name = "<init>" := (name_of_methodNamed B.named B.method).1
  subst hsz
  have hD := hD0.self (sz := s.heap.size)
  generalize hAe : va_A [(h0, .inr (2, [.null, .null, .int 0, .int 0]))] s.heap.size = A at hD ⊢
  have hA : ∀ q : Nat, s.heap.size ≤ q → A q := fun q h => by rw [← hAe]; exact Or.inr h
  have hS : va_S A s.heap s.heap [] := va_S.rf
  have hP : va_P (wD X) classes [(h0, .inr (2, [.null, .null, .int 0, .int 0]))] s.heap := hP
  have hl := lv_entry ([.ref h0]) (n := 1) (Nat.le_of_ble_eq_true rfl)
  rw [lg_entry_eq]
  generalize (lg_sl ([.ref h0]) ++ List.replicate (1 - (lg_sl ([.ref h0])).length) Slot.unset).toArray = ls at hl ⊢
  have hl : lv_has ls 1 [(0, .ref h0)] := hl
  refine lv_aload_n hx hb dX2_init_0 rfl (lv_at hl 0 rfl) ?_
  refine W.objInit hx hb hown (hts _ (wU_in _ m_116)) (hts _ (wU_in _ m_52)) (hts _ (wU_in _ m_53)) rfl (by rw [hml]; exact hl.1) rfl dX2_init_1 (Nat.le_of_ble_eq_true rfl) (Nat.le_of_ble_eq_true rfl) ?_
  refine W.eq (g2 := F0 m 4 ls []) rfl ?_
  refine lv_aload_n hx hb dX2_init_4 rfl (lv_at hl 0 rfl) ?_
  refine lv_iconst (v := 4) hx hb dX2_init_5 (by decide) ?_
  refine wi_int hx hb (hts _ (wU_in _ m_110)) hK hP hD hS hA 4 (by decide) rfl (Nat.le_of_ble_eq_true rfl) (Nat.le_of_ble_eq_true rfl) (Nat.le_of_ble_eq_true rfl) dX2_init_6 (fun q0 H hP hD hS => ?_)
  have hP : va_P (wD X) classes [(h0, .inr (2, [.null, .null, .int 0, .int 0])), (q0, .inl (X.2.2.1 0, 4, .inl (fun _ => 0)))] H := hP
  have hD : va_D A [(h0, .inr (2, [.null, .null, .int 0, .int 0])), (q0, .inl (X.2.2.1 0, 4, .inl (fun _ => 0)))] := hD
  refine W.widen (k := 1) (n := 4) (Nat.le_of_ble_eq_true rfl) (Nat.le_of_ble_eq_true rfl) ?_
  refine va_putF (D := wD X) (ci := 2) (v := .ref q0) (ty := .array .int) (C := RX2) (T := TX2) (N := 4) hx hb hts j_X2 tyX2 tyX2_ok nmX2 hown hK hP hD hS 0 rfl rfl 0 (by decide) (hts _ (wU_in _ m_117)) (fun _ h9 => h9) rfl hin rfl (by decide +kernel) rfl rfl (Nat.le_of_ble_eq_true rfl) dX2_init_8 (fun H locs hP hD hS => ?_)
  have hP : va_P (wD X) classes [(h0, .inr (2, [.ref q0, .null, .int 0, .int 0])), (q0, .inl (X.2.2.1 0, 4, .inl (fun _ => 0)))] H := hP
  have hD : va_D A [(h0, .inr (2, [.ref q0, .null, .int 0, .int 0])), (q0, .inl (X.2.2.1 0, 4, .inl (fun _ => 0)))] := hD
  refine lv_aload_n hx hb dX2_init_11 rfl (lv_at hl 0 rfl) ?_
  refine lv_iconst (v := 3) hx hb dX2_init_12 (by decide) ?_
  refine wi_int hx hb (hts _ (wU_in _ m_110)) hK hP hD hS hA 3 (by decide) rfl (Nat.le_of_ble_eq_true rfl) (Nat.le_of_ble_eq_true rfl) (Nat.le_of_ble_eq_true rfl) dX2_init_13 (fun q1 H hP hD hS => ?_)
  have hP : va_P (wD X) classes [(h0, .inr (2, [.ref q0, .null, .int 0, .int 0])), (q0, .inl (X.2.2.1 0, 4, .inl (fun _ => 0))), (q1, .inl (X.2.2.1 0, 3, .inl (fun _ => 0)))] H := hP
  have hD : va_D A [(h0, .inr (2, [.ref q0, .null, .int 0, .int 0])), (q0, .inl (X.2.2.1 0, 4, .inl (fun _ => 0))), (q1, .inl (X.2.2.1 0, 3, .inl (fun _ => 0)))] := hD
  refine W.widen (k := 2) (n := 7) (Nat.le_of_ble_eq_true rfl) (Nat.le_of_ble_eq_true rfl) ?_
  refine va_putF (D := wD X) (ci := 2) (v := .ref q1) (ty := .array .int) (C := RX2) (T := TX2) (N := 4) hx hb hts j_X2 tyX2 tyX2_ok nmX2 hown hK hP hD hS 0 rfl rfl 1 (by decide) (hts _ (wU_in _ m_119)) (fun _ h9 => h9) rfl hin rfl (by decide +kernel) rfl rfl (Nat.le_of_ble_eq_true rfl) dX2_init_15 (fun H locs hP hD hS => ?_)
  have hP : va_P (wD X) classes [(h0, .inr (2, [.ref q0, .ref q1, .int 0, .int 0])), (q0, .inl (X.2.2.1 0, 4, .inl (fun _ => 0))), (q1, .inl (X.2.2.1 0, 3, .inl (fun _ => 0)))] H := hP
  have hD : va_D A [(h0, .inr (2, [.ref q0, .ref q1, .int 0, .int 0])), (q0, .inl (X.2.2.1 0, 4, .inl (fun _ => 0))), (q1, .inl (X.2.2.1 0, 3, .inl (fun _ => 0)))] := hD
  exact W.vret hx hb hr (fun t ht hW => ⟨⟨(q0, q1), rfl, trivial, by rw [ht]; exact hP, hD⟩, hS.F ht⟩) hS.2.2 dX2_init_18
theorem hdI_X4_init : yX4_init.cls ≠ "java/lang/invoke/MethodHandle" ∧ yX4_init.cls ≠ "java/lang/invoke/VarHandle" ∧ (parseMethodDescriptor yX4_init.desc).map (fun d => d.parameters.length) = some 1 := by decide +kernel
def o_X4_init (X : Cx) (h0 st0 : Nat) : Nat × Nat × Nat × Nat → va_W := fun u => [(h0, .inr (4, [.ref st0, .ref u.1, .ref u.2.1, .ref u.2.2.1, .ref u.2.2.2, .int 0])), (u.1, .inl (X.2.2.1 0, 16, .inl (fun _ => 0))), (u.2.1, .inl (X.2.2.1 0, 4, .inl (fun _ => 0))), (u.2.2.1, .inl (X.2.2.1 0, 12, .inl (fl 0 12 (fun _ => 0)))), (u.2.2.2, .inl (X.2.2.1 0, 12, .inl (fun _ => 0)))]
set_option maxHeartbeats 4000000 in
set_option maxRecDepth 100000 in
theorem I_X4_init (l : Launch) (X : Cx) (h0 st0 sz : Nat) : Mn l X yX4_init cX4_init 3 1 12 4 44 [.ref h0, .ref st0] [(h0, .inr (4, [.null, .null, .null, .null, .null, .int 0]))] sz (fun _ : Nat × Nat × Nat × Nat => True) (o_X4_init X h0 st0) := by
  unfold Mn
  refine Met.ofW (cc := cX4_init) (maxL := 3) (ret := none) (by decide) rfl ?_
  intro p e s m args below meth c s₁ B hml hv
  obtain ⟨rfl, hsz, hP, hK, hD0, hN, hO⟩ := hv
  have hx := B.exec
  have hb := B.bytes
  have hr := B.returns
  have hts := atoms_spec (ws := wU yX4_init cX4_init 3 none) B.pre
  have hown : s.vm.findClass RX4 = some m.cls := findClass_of_methodNamed B.named
  have hlocks := B.notSynchronized
  have hin : meth.name = "<init>" := (name_of_methodNamed B.named B.method).1
  subst hsz
  have hD := hD0.self (sz := s.heap.size)
  generalize hAe : va_A [(h0, .inr (4, [.null, .null, .null, .null, .null, .int 0]))] s.heap.size = A at hD ⊢
  have hA : ∀ q : Nat, s.heap.size ≤ q → A q := fun q h => by rw [← hAe]; exact Or.inr h
  have hS : va_S A s.heap s.heap [] := va_S.rf
  have hP : va_P (wD X) classes [(h0, .inr (4, [.null, .null, .null, .null, .null, .int 0]))] s.heap := hP
  have hl := lv_entry ([.ref h0, .ref st0]) (n := 3) (Nat.le_of_ble_eq_true rfl)
  rw [lg_entry_eq]
  generalize (lg_sl ([.ref h0, .ref st0]) ++ List.replicate (3 - (lg_sl ([.ref h0, .ref st0])).length) Slot.unset).toArray = ls at hl ⊢
  have hl : lv_has ls 3 [(0, .ref h0), (1, .ref st0)] := hl
  refine lv_aload_n hx hb dX4_init_0 rfl (lv_at hl 0 rfl) ?_
  refine W.objInit hx hb hown (hts _ (wU_in _ m_142)) (hts _ (wU_in _ m_52)) (hts _ (wU_in _ m_53)) rfl (by rw [hml]; exact hl.1) rfl dX4_init_1 (Nat.le_of_ble_eq_true rfl) (Nat.le_of_ble_eq_true rfl) ?_
  refine W.eq (g2 := F0 m 4 ls []) rfl ?_
  refine lv_aload_n hx hb dX4_init_4 rfl (lv_at hl 0 rfl) ?_
  refine lv_bipush (v := 16) hx hb dX4_init_5 (by decide) ?_
  refine wi_int hx hb (hts _ (wU_in _ m_110)) hK hP hD hS hA 16 (by decide) rfl (Nat.le_of_ble_eq_true rfl) (Nat.le_of_ble_eq_true rfl) (Nat.le_of_ble_eq_true rfl) dX4_init_7 (fun q0 H hP hD hS => ?_)
  have hP : va_P (wD X) classes [(h0, .inr (4, [.null, .null, .null, .null, .null, .int 0])), (q0, .inl (X.2.2.1 0, 16, .inl (fun _ => 0)))] H := hP
  have hD : va_D A [(h0, .inr (4, [.null, .null, .null, .null, .null, .int 0])), (q0, .inl (X.2.2.1 0, 16, .inl (fun _ => 0)))] := hD
  refine W.widen (k := 1) (n := 16) (Nat.le_of_ble_eq_true rfl) (Nat.le_of_ble_eq_true rfl) ?_
  refine va_putF (D := wD X) (ci := 4) (v := .ref q0) (ty := .array .int) (C := RX4) (T := TX4) (N := 6) hx hb hts j_X4 tyX4 tyX4_ok nmX4 hown hK hP hD hS 0 rfl rfl 1 (by decide) (hts _ (wU_in _ m_144)) (fun _ h9 => h9) rfl hin rfl (by decide +kernel) rfl rfl (Nat.le_of_ble_eq_true rfl) dX4_init_9 (fun H locs hP hD hS => ?_)
  have hP : va_P (wD X) classes [(h0, .inr (4, [.null, .ref q0, .null, .null, .null, .int 0])), (q0, .inl (X.2.2.1 0, 16, .inl (fun _ => 0)))] H := hP
  have hD : va_D A [(h0, .inr (4, [.null, .ref q0, .null, .null, .null, .int 0])), (q0, .inl (X.2.2.1 0, 16, .inl (fun _ => 0)))] := hD
  refine lv_aload_n hx hb dX4_init_12 rfl (lv_at hl 0 rfl) ?_
  refine lv_iconst (v := 4) hx hb dX4_init_13 (by decide) ?_
  refine wi_int hx hb (hts _ (wU_in _ m_110)) hK hP hD hS hA 4 (by decide) rfl (Nat.le_of_ble_eq_true rfl) (Nat.le_of_ble_eq_true rfl) (Nat.le_of_ble_eq_true rfl) dX4_init_14 (fun q1 H hP hD hS => ?_)
  have hP : va_P (wD X) classes [(h0, .inr (4, [.null, .ref q0, .null, .null, .null, .int 0])), (q0, .inl (X.2.2.1 0, 16, .inl (fun _ => 0))), (q1, .inl (X.2.2.1 0, 4, .inl (fun _ => 0)))] H := hP
  have hD : va_D A [(h0, .inr (4, [.null, .ref q0, .null, .null, .null, .int 0])), (q0, .inl (X.2.2.1 0, 16, .inl (fun _ => 0))), (q1, .inl (X.2.2.1 0, 4, .inl (fun _ => 0)))] := hD
  refine W.widen (k := 2) (n := 20) (Nat.le_of_ble_eq_true rfl) (Nat.le_of_ble_eq_true rfl) ?_
  refine va_putF (D := wD X) (ci := 4) (v := .ref q1) (ty := .array .int) (C := RX4) (T := TX4) (N := 6) hx hb hts j_X4 tyX4 tyX4_ok nmX4 hown hK hP hD hS 0 rfl rfl 2 (by decide) (hts _ (wU_in _ m_145)) (fun _ h9 => h9) rfl hin rfl (by decide +kernel) rfl rfl (Nat.le_of_ble_eq_true rfl) dX4_init_16 (fun H locs hP hD hS => ?_)
  have hP : va_P (wD X) classes [(h0, .inr (4, [.null, .ref q0, .ref q1, .null, .null, .int 0])), (q0, .inl (X.2.2.1 0, 16, .inl (fun _ => 0))), (q1, .inl (X.2.2.1 0, 4, .inl (fun _ => 0)))] H := hP
  have hD : va_D A [(h0, .inr (4, [.null, .ref q0, .ref q1, .null, .null, .int 0])), (q0, .inl (X.2.2.1 0, 16, .inl (fun _ => 0))), (q1, .inl (X.2.2.1 0, 4, .inl (fun _ => 0)))] := hD
  refine lv_aload_n hx hb dX4_init_19 rfl (lv_at hl 0 rfl) ?_
  refine lv_bipush (v := 12) hx hb dX4_init_20 (by decide) ?_
  refine wi_int hx hb (hts _ (wU_in _ m_110)) hK hP hD hS hA 12 (by decide) rfl (Nat.le_of_ble_eq_true rfl) (Nat.le_of_ble_eq_true rfl) (Nat.le_of_ble_eq_true rfl) dX4_init_22 (fun q2 H hP hD hS => ?_)
  have hP : va_P (wD X) classes [(h0, .inr (4, [.null, .ref q0, .ref q1, .null, .null, .int 0])), (q0, .inl (X.2.2.1 0, 16, .inl (fun _ => 0))), (q1, .inl (X.2.2.1 0, 4, .inl (fun _ => 0))), (q2, .inl (X.2.2.1 0, 12, .inl (fun _ => 0)))] H := hP
  have hD : va_D A [(h0, .inr (4, [.null, .ref q0, .ref q1, .null, .null, .int 0])), (q0, .inl (X.2.2.1 0, 16, .inl (fun _ => 0))), (q1, .inl (X.2.2.1 0, 4, .inl (fun _ => 0))), (q2, .inl (X.2.2.1 0, 12, .inl (fun _ => 0)))] := hD
  refine W.widen (k := 3) (n := 32) (Nat.le_of_ble_eq_true rfl) (Nat.le_of_ble_eq_true rfl) ?_
  refine va_putF (D := wD X) (ci := 4) (v := .ref q2) (ty := .array .int) (C := RX4) (T := TX4) (N := 6) hx hb hts j_X4 tyX4 tyX4_ok nmX4 hown hK hP hD hS 0 rfl rfl 3 (by decide) (hts _ (wU_in _ m_147)) (fun _ h9 => h9) rfl hin rfl (by decide +kernel) rfl rfl (Nat.le_of_ble_eq_true rfl) dX4_init_24 (fun H locs hP hD hS => ?_)
  have hP : va_P (wD X) classes [(h0, .inr (4, [.null, .ref q0, .ref q1, .ref q2, .null, .int 0])), (q0, .inl (X.2.2.1 0, 16, .inl (fun _ => 0))), (q1, .inl (X.2.2.1 0, 4, .inl (fun _ => 0))), (q2, .inl (X.2.2.1 0, 12, .inl (fun _ => 0)))] H := hP
  have hD : va_D A [(h0, .inr (4, [.null, .ref q0, .ref q1, .ref q2, .null, .int 0])), (q0, .inl (X.2.2.1 0, 16, .inl (fun _ => 0))), (q1, .inl (X.2.2.1 0, 4, .inl (fun _ => 0))), (q2, .inl (X.2.2.1 0, 12, .inl (fun _ => 0)))] := hD
  refine lv_aload_n hx hb dX4_init_27 rfl (lv_at hl 0 rfl) ?_
  refine lv_bipush (v := 12) hx hb dX4_init_28 (by decide) ?_
  refine wi_int hx hb (hts _ (wU_in _ m_110)) hK hP hD hS hA 12 (by decide) rfl (Nat.le_of_ble_eq_true rfl) (Nat.le_of_ble_eq_true rfl) (Nat.le_of_ble_eq_true rfl) dX4_init_30 (fun q3 H hP hD hS => ?_)
  have hP : va_P (wD X) classes [(h0, .inr (4, [.null, .ref q0, .ref q1, .ref q2, .null, .int 0])), (q0, .inl (X.2.2.1 0, 16, .inl (fun _ => 0))), (q1, .inl (X.2.2.1 0, 4, .inl (fun _ => 0))), (q2, .inl (X.2.2.1 0, 12, .inl (fun _ => 0))), (q3, .inl (X.2.2.1 0, 12, .inl (fun _ => 0)))] H := hP
  have hD : va_D A [(h0, .inr (4, [.null, .ref q0, .ref q1, .ref q2, .null, .int 0])), (q0, .inl (X.2.2.1 0, 16, .inl (fun _ => 0))), (q1, .inl (X.2.2.1 0, 4, .inl (fun _ => 0))), (q2, .inl (X.2.2.1 0, 12, .inl (fun _ => 0))), (q3, .inl (X.2.2.1 0, 12, .inl (fun _ => 0)))] := hD
  refine W.widen (k := 4) (n := 44) (Nat.le_of_ble_eq_true rfl) (Nat.le_of_ble_eq_true rfl) ?_
  refine va_putF (D := wD X) (ci := 4) (v := .ref q3) (ty := .array .int) (C := RX4) (T := TX4) (N := 6) hx hb hts j_X4 tyX4 tyX4_ok nmX4 hown hK hP hD hS 0 rfl rfl 4 (by decide) (hts _ (wU_in _ m_148)) (fun _ h9 => h9) rfl hin rfl (by decide +kernel) rfl rfl (Nat.le_of_ble_eq_true rfl) dX4_init_32 (fun H locs hP hD hS => ?_)
  have hP : va_P (wD X) classes [(h0, .inr (4, [.null, .ref q0, .ref q1, .ref q2, .ref q3, .int 0])), (q0, .inl (X.2.2.1 0, 16, .inl (fun _ => 0))), (q1, .inl (X.2.2.1 0, 4, .inl (fun _ => 0))), (q2, .inl (X.2.2.1 0, 12, .inl (fun _ => 0))), (q3, .inl (X.2.2.1 0, 12, .inl (fun _ => 0)))] H := hP
  have hD : va_D A [(h0, .inr (4, [.null, .ref q0, .ref q1, .ref q2, .ref q3, .int 0])), (q0, .inl (X.2.2.1 0, 16, .inl (fun _ => 0))), (q1, .inl (X.2.2.1 0, 4, .inl (fun _ => 0))), (q2, .inl (X.2.2.1 0, 12, .inl (fun _ => 0))), (q3, .inl (X.2.2.1 0, 12, .inl (fun _ => 0)))] := hD
  refine lv_aload_n hx hb dX4_init_35 rfl (lv_at hl 0 rfl) ?_
  refine lv_aload_n hx hb dX4_init_36 rfl (lv_at hl 1 rfl) ?_
  refine va_putF (D := wD X) (ci := 4) (v := .ref st0) (ty := .object "WordKin$Stock") (C := RX4) (T := TX4) (N := 6) hx hb hts j_X4 tyX4 tyX4_ok nmX4 hown hK hP hD hS 0 rfl rfl 0 (by decide) (hts _ (wU_in _ m_143)) (fun _ h9 => h9) rfl hin rfl (by decide +kernel) rfl rfl (Nat.le_of_ble_eq_true rfl) dX4_init_37 (fun H locs hP hD hS => ?_)
  have hP : va_P (wD X) classes [(h0, .inr (4, [.ref st0, .ref q0, .ref q1, .ref q2, .ref q3, .int 0])), (q0, .inl (X.2.2.1 0, 16, .inl (fun _ => 0))), (q1, .inl (X.2.2.1 0, 4, .inl (fun _ => 0))), (q2, .inl (X.2.2.1 0, 12, .inl (fun _ => 0))), (q3, .inl (X.2.2.1 0, 12, .inl (fun _ => 0)))] H := hP
  have hD : va_D A [(h0, .inr (4, [.ref st0, .ref q0, .ref q1, .ref q2, .ref q3, .int 0])), (q0, .inl (X.2.2.1 0, 16, .inl (fun _ => 0))), (q1, .inl (X.2.2.1 0, 4, .inl (fun _ => 0))), (q2, .inl (X.2.2.1 0, 12, .inl (fun _ => 0))), (q3, .inl (X.2.2.1 0, 12, .inl (fun _ => 0)))] := hD
  refine lv_iconst (v := 0) hx hb dX4_init_40 (by decide) ?_
  refine lv_istore_n (lv' := [(2, .int 0), (0, .ref h0), (1, .ref st0)]) hx hb dX4_init_41 rfl hl (by decide) rfl (fun ls hl => ?_)
  refine lv_iload_n hx hb dX4_init_42 rfl (lv_at hl 0 rfl) ?_
  refine lv_bipush (v := 12) hx hb dX4_init_43 (by decide) ?_
  refine lv_icmp_ge (tgt := 62) hx hb dX4_init_45 (by decide) (fun c1 => absurd c1 (by decide)) (fun _ => ?_)
  refine lv_aload_n hx hb dX4_init_48 rfl (lv_at hl 1 rfl) ?_
  refine va_get (D := wD X) (ci := 4) (v := .ref q2) (C := RX4) (T := TX4) (N := 6) hx hb hts j_X4 hown hK hP 0 rfl rfl 3 (by decide) (hts _ (wU_in _ m_147)) (fun x9 h9 => h9) rfl dX4_init_49 ?_
  refine lv_iload_n hx hb dX4_init_52 rfl (lv_at hl 0 rfl) ?_
  refine lv_bipush (v := (-9)) hx hb dX4_init_53 (by decide) ?_
  refine va_iast hx hb hK hP hD hS 3 0 rfl rfl (okI_in (j := 0) (n := 12) (by decide)) dX4_init_55 (fun H locs hP hD hS => ?_)
  have hP : va_P (wD X) classes [(h0, .inr (4, [.ref st0, .ref q0, .ref q1, .ref q2, .ref q3, .int 0])), (q0, .inl (X.2.2.1 0, 16, .inl (fun _ => 0))), (q1, .inl (X.2.2.1 0, 4, .inl (fun _ => 0))), (q2, .inl (X.2.2.1 0, 12, .inl (fl 0 1 (fun _ => 0)))), (q3, .inl (X.2.2.1 0, 12, .inl (fun _ => 0)))] H := hP
  have hD : va_D A [(h0, .inr (4, [.ref st0, .ref q0, .ref q1, .ref q2, .ref q3, .int 0])), (q0, .inl (X.2.2.1 0, 16, .inl (fun _ => 0))), (q1, .inl (X.2.2.1 0, 4, .inl (fun _ => 0))), (q2, .inl (X.2.2.1 0, 12, .inl (fl 0 1 (fun _ => 0)))), (q3, .inl (X.2.2.1 0, 12, .inl (fun _ => 0)))] := hD
  refine lv_iinc (v := 1) (lv' := [(2, .int 1), (0, .ref h0), (1, .ref st0)]) hx hb dX4_init_56 hl (k := 0) rfl rfl (by decide) rfl (fun ls hl => ?_)
  refine lv_goto (tgt := 42) hx hb dX4_init_59 (by decide) ?_
  refine lv_iload_n hx hb dX4_init_42 rfl (lv_at hl 0 rfl) ?_
  refine lv_bipush (v := 12) hx hb dX4_init_43 (by decide) ?_
  refine lv_icmp_ge (tgt := 62) hx hb dX4_init_45 (by decide) (fun c1 => absurd c1 (by decide)) (fun _ => ?_)
  refine lv_aload_n hx hb dX4_init_48 rfl (lv_at hl 1 rfl) ?_
  refine va_get (D := wD X) (ci := 4) (v := .ref q2) (C := RX4) (T := TX4) (N := 6) hx hb hts j_X4 hown hK hP 0 rfl rfl 3 (by decide) (hts _ (wU_in _ m_147)) (fun x9 h9 => h9) rfl dX4_init_49 ?_
  refine lv_iload_n hx hb dX4_init_52 rfl (lv_at hl 0 rfl) ?_
  refine lv_bipush (v := (-9)) hx hb dX4_init_53 (by decide) ?_
  refine va_iast hx hb hK hP hD hS 3 0 rfl rfl (okI_in (j := 1) (n := 12) (by decide)) dX4_init_55 (fun H locs hP hD hS => ?_)
  have hP : va_P (wD X) classes [(h0, .inr (4, [.ref st0, .ref q0, .ref q1, .ref q2, .ref q3, .int 0])), (q0, .inl (X.2.2.1 0, 16, .inl (fun _ => 0))), (q1, .inl (X.2.2.1 0, 4, .inl (fun _ => 0))), (q2, .inl (X.2.2.1 0, 12, .inl (fl 0 2 (fun _ => 0)))), (q3, .inl (X.2.2.1 0, 12, .inl (fun _ => 0)))] H := hP
  have hD : va_D A [(h0, .inr (4, [.ref st0, .ref q0, .ref q1, .ref q2, .ref q3, .int 0])), (q0, .inl (X.2.2.1 0, 16, .inl (fun _ => 0))), (q1, .inl (X.2.2.1 0, 4, .inl (fun _ => 0))), (q2, .inl (X.2.2.1 0, 12, .inl (fl 0 2 (fun _ => 0)))), (q3, .inl (X.2.2.1 0, 12, .inl (fun _ => 0)))] := hD
  refine lv_iinc (v := 2) (lv' := [(2, .int 2), (0, .ref h0), (1, .ref st0)]) hx hb dX4_init_56 hl (k := 0) rfl rfl (by decide) rfl (fun ls hl => ?_)
  refine lv_goto (tgt := 42) hx hb dX4_init_59 (by decide) ?_
  refine lv_iload_n hx hb dX4_init_42 rfl (lv_at hl 0 rfl) ?_
  refine lv_bipush (v := 12) hx hb dX4_init_43 (by decide) ?_
  refine lv_icmp_ge (tgt := 62) hx hb dX4_init_45 (by decide) (fun c1 => absurd c1 (by decide)) (fun _ => ?_)
  refine lv_aload_n hx hb dX4_init_48 rfl (lv_at hl 1 rfl) ?_
  refine va_get (D := wD X) (ci := 4) (v := .ref q2) (C := RX4) (T := TX4) (N := 6) hx hb hts j_X4 hown hK hP 0 rfl rfl 3 (by decide) (hts _ (wU_in _ m_147)) (fun x9 h9 => h9) rfl dX4_init_49 ?_
  refine lv_iload_n hx hb dX4_init_52 rfl (lv_at hl 0 rfl) ?_
  refine lv_bipush (v := (-9)) hx hb dX4_init_53 (by decide) ?_
  refine va_iast hx hb hK hP hD hS 3 0 rfl rfl (okI_in (j := 2) (n := 12) (by decide)) dX4_init_55 (fun H locs hP hD hS => ?_)
  have hP : va_P (wD X) classes [(h0, .inr (4, [.ref st0, .ref q0, .ref q1, .ref q2, .ref q3, .int 0])), (q0, .inl (X.2.2.1 0, 16, .inl (fun _ => 0))), (q1, .inl (X.2.2.1 0, 4, .inl (fun _ => 0))), (q2, .inl (X.2.2.1 0, 12, .inl (fl 0 3 (fun _ => 0)))), (q3, .inl (X.2.2.1 0, 12, .inl (fun _ => 0)))] H := hP
  have hD : va_D A [(h0, .inr (4, [.ref st0, .ref q0, .ref q1, .ref q2, .ref q3, .int 0])), (q0, .inl (X.2.2.1 0, 16, .inl (fun _ => 0))), (q1, .inl (X.2.2.1 0, 4, .inl (fun _ => 0))), (q2, .inl (X.2.2.1 0, 12, .inl (fl 0 3 (fun _ => 0)))), (q3, .inl (X.2.2.1 0, 12, .inl (fun _ => 0)))] := hD
  refine lv_iinc (v := 3) (lv' := [(2, .int 3), (0, .ref h0), (1, .ref st0)]) hx hb dX4_init_56 hl (k := 0) rfl rfl (by decide) rfl (fun ls hl => ?_)
  refine lv_goto (tgt := 42) hx hb dX4_init_59 (by decide) ?_
  refine lv_iload_n hx hb dX4_init_42 rfl (lv_at hl 0 rfl) ?_
  refine lv_bipush (v := 12) hx hb dX4_init_43 (by decide) ?_
  refine lv_icmp_ge (tgt := 62) hx hb dX4_init_45 (by decide) (fun c1 => absurd c1 (by decide)) (fun _ => ?_)
  refine lv_aload_n hx hb dX4_init_48 rfl (lv_at hl 1 rfl) ?_
  refine va_get (D := wD X) (ci := 4) (v := .ref q2) (C := RX4) (T := TX4) (N := 6) hx hb hts j_X4 hown hK hP 0 rfl rfl 3 (by decide) (hts _ (wU_in _ m_147)) (fun x9 h9 => h9) rfl dX4_init_49 ?_
  refine lv_iload_n hx hb dX4_init_52 rfl (lv_at hl 0 rfl) ?_
  refine lv_bipush (v := (-9)) hx hb dX4_init_53 (by decide) ?_
  refine va_iast hx hb hK hP hD hS 3 0 rfl rfl (okI_in (j := 3) (n := 12) (by decide)) dX4_init_55 (fun H locs hP hD hS => ?_)
  have hP : va_P (wD X) classes [(h0, .inr (4, [.ref st0, .ref q0, .ref q1, .ref q2, .ref q3, .int 0])), (q0, .inl (X.2.2.1 0, 16, .inl (fun _ => 0))), (q1, .inl (X.2.2.1 0, 4, .inl (fun _ => 0))), (q2, .inl (X.2.2.1 0, 12, .inl (fl 0 4 (fun _ => 0)))), (q3, .inl (X.2.2.1 0, 12, .inl (fun _ => 0)))] H := hP
  have hD : va_D A [(h0, .inr (4, [.ref st0, .ref q0, .ref q1, .ref q2, .ref q3, .int 0])), (q0, .inl (X.2.2.1 0, 16, .inl (fun _ => 0))), (q1, .inl (X.2.2.1 0, 4, .inl (fun _ => 0))), (q2, .inl (X.2.2.1 0, 12, .inl (fl 0 4 (fun _ => 0)))), (q3, .inl (X.2.2.1 0, 12, .inl (fun _ => 0)))] := hD
  refine lv_iinc (v := 4) (lv' := [(2, .int 4), (0, .ref h0), (1, .ref st0)]) hx hb dX4_init_56 hl (k := 0) rfl rfl (by decide) rfl (fun ls hl => ?_)
  refine lv_goto (tgt := 42) hx hb dX4_init_59 (by decide) ?_
  refine lv_iload_n hx hb dX4_init_42 rfl (lv_at hl 0 rfl) ?_
  refine lv_bipush (v := 12) hx hb dX4_init_43 (by decide) ?_
  refine lv_icmp_ge (tgt := 62) hx hb dX4_init_45 (by decide) (fun c1 => absurd c1 (by decide)) (fun _ => ?_)
  refine lv_aload_n hx hb dX4_init_48 rfl (lv_at hl 1 rfl) ?_
  refine va_get (D := wD X) (ci := 4) (v := .ref q2) (C := RX4) (T := TX4) (N := 6) hx hb hts j_X4 hown hK hP 0 rfl rfl 3 (by decide) (hts _ (wU_in _ m_147)) (fun x9 h9 => h9) rfl dX4_init_49 ?_
  refine lv_iload_n hx hb dX4_init_52 rfl (lv_at hl 0 rfl) ?_
  refine lv_bipush (v := (-9)) hx hb dX4_init_53 (by decide) ?_
  refine va_iast hx hb hK hP hD hS 3 0 rfl rfl (okI_in (j := 4) (n := 12) (by decide)) dX4_init_55 (fun H locs hP hD hS => ?_)
  have hP : va_P (wD X) classes [(h0, .inr (4, [.ref st0, .ref q0, .ref q1, .ref q2, .ref q3, .int 0])), (q0, .inl (X.2.2.1 0, 16, .inl (fun _ => 0))), (q1, .inl (X.2.2.1 0, 4, .inl (fun _ => 0))), (q2, .inl (X.2.2.1 0, 12, .inl (fl 0 5 (fun _ => 0)))), (q3, .inl (X.2.2.1 0, 12, .inl (fun _ => 0)))] H := hP
  have hD : va_D A [(h0, .inr (4, [.ref st0, .ref q0, .ref q1, .ref q2, .ref q3, .int 0])), (q0, .inl (X.2.2.1 0, 16, .inl (fun _ => 0))), (q1, .inl (X.2.2.1 0, 4, .inl (fun _ => 0))), (q2, .inl (X.2.2.1 0, 12, .inl (fl 0 5 (fun _ => 0)))), (q3, .inl (X.2.2.1 0, 12, .inl (fun _ => 0)))] := hD
  refine lv_iinc (v := 5) (lv' := [(2, .int 5), (0, .ref h0), (1, .ref st0)]) hx hb dX4_init_56 hl (k := 0) rfl rfl (by decide) rfl (fun ls hl => ?_)
  refine lv_goto (tgt := 42) hx hb dX4_init_59 (by decide) ?_
  refine lv_iload_n hx hb dX4_init_42 rfl (lv_at hl 0 rfl) ?_
  refine lv_bipush (v := 12) hx hb dX4_init_43 (by decide) ?_
  refine lv_icmp_ge (tgt := 62) hx hb dX4_init_45 (by decide) (fun c1 => absurd c1 (by decide)) (fun _ => ?_)
  refine lv_aload_n hx hb dX4_init_48 rfl (lv_at hl 1 rfl) ?_
  refine va_get (D := wD X) (ci := 4) (v := .ref q2) (C := RX4) (T := TX4) (N := 6) hx hb hts j_X4 hown hK hP 0 rfl rfl 3 (by decide) (hts _ (wU_in _ m_147)) (fun x9 h9 => h9) rfl dX4_init_49 ?_
  refine lv_iload_n hx hb dX4_init_52 rfl (lv_at hl 0 rfl) ?_
  refine lv_bipush (v := (-9)) hx hb dX4_init_53 (by decide) ?_
  refine va_iast hx hb hK hP hD hS 3 0 rfl rfl (okI_in (j := 5) (n := 12) (by decide)) dX4_init_55 (fun H locs hP hD hS => ?_)
  have hP : va_P (wD X) classes [(h0, .inr (4, [.ref st0, .ref q0, .ref q1, .ref q2, .ref q3, .int 0])), (q0, .inl (X.2.2.1 0, 16, .inl (fun _ => 0))), (q1, .inl (X.2.2.1 0, 4, .inl (fun _ => 0))), (q2, .inl (X.2.2.1 0, 12, .inl (fl 0 6 (fun _ => 0)))), (q3, .inl (X.2.2.1 0, 12, .inl (fun _ => 0)))] H := hP
  have hD : va_D A [(h0, .inr (4, [.ref st0, .ref q0, .ref q1, .ref q2, .ref q3, .int 0])), (q0, .inl (X.2.2.1 0, 16, .inl (fun _ => 0))), (q1, .inl (X.2.2.1 0, 4, .inl (fun _ => 0))), (q2, .inl (X.2.2.1 0, 12, .inl (fl 0 6 (fun _ => 0)))), (q3, .inl (X.2.2.1 0, 12, .inl (fun _ => 0)))] := hD
  refine lv_iinc (v := 6) (lv' := [(2, .int 6), (0, .ref h0), (1, .ref st0)]) hx hb dX4_init_56 hl (k := 0) rfl rfl (by decide) rfl (fun ls hl => ?_)
  refine lv_goto (tgt := 42) hx hb dX4_init_59 (by decide) ?_
  refine lv_iload_n hx hb dX4_init_42 rfl (lv_at hl 0 rfl) ?_
  refine lv_bipush (v := 12) hx hb dX4_init_43 (by decide) ?_
  refine lv_icmp_ge (tgt := 62) hx hb dX4_init_45 (by decide) (fun c1 => absurd c1 (by decide)) (fun _ => ?_)
  refine lv_aload_n hx hb dX4_init_48 rfl (lv_at hl 1 rfl) ?_
  refine va_get (D := wD X) (ci := 4) (v := .ref q2) (C := RX4) (T := TX4) (N := 6) hx hb hts j_X4 hown hK hP 0 rfl rfl 3 (by decide) (hts _ (wU_in _ m_147)) (fun x9 h9 => h9) rfl dX4_init_49 ?_
  refine lv_iload_n hx hb dX4_init_52 rfl (lv_at hl 0 rfl) ?_
  refine lv_bipush (v := (-9)) hx hb dX4_init_53 (by decide) ?_
  refine va_iast hx hb hK hP hD hS 3 0 rfl rfl (okI_in (j := 6) (n := 12) (by decide)) dX4_init_55 (fun H locs hP hD hS => ?_)
  have hP : va_P (wD X) classes [(h0, .inr (4, [.ref st0, .ref q0, .ref q1, .ref q2, .ref q3, .int 0])), (q0, .inl (X.2.2.1 0, 16, .inl (fun _ => 0))), (q1, .inl (X.2.2.1 0, 4, .inl (fun _ => 0))), (q2, .inl (X.2.2.1 0, 12, .inl (fl 0 7 (fun _ => 0)))), (q3, .inl (X.2.2.1 0, 12, .inl (fun _ => 0)))] H := hP
  have hD : va_D A [(h0, .inr (4, [.ref st0, .ref q0, .ref q1, .ref q2, .ref q3, .int 0])), (q0, .inl (X.2.2.1 0, 16, .inl (fun _ => 0))), (q1, .inl (X.2.2.1 0, 4, .inl (fun _ => 0))), (q2, .inl (X.2.2.1 0, 12, .inl (fl 0 7 (fun _ => 0)))), (q3, .inl (X.2.2.1 0, 12, .inl (fun _ => 0)))] := hD
  refine lv_iinc (v := 7) (lv' := [(2, .int 7), (0, .ref h0), (1, .ref st0)]) hx hb dX4_init_56 hl (k := 0) rfl rfl (by decide) rfl (fun ls hl => ?_)
  refine lv_goto (tgt := 42) hx hb dX4_init_59 (by decide) ?_
  refine lv_iload_n hx hb dX4_init_42 rfl (lv_at hl 0 rfl) ?_
  refine lv_bipush (v := 12) hx hb dX4_init_43 (by decide) ?_
  refine lv_icmp_ge (tgt := 62) hx hb dX4_init_45 (by decide) (fun c1 => absurd c1 (by decide)) (fun _ => ?_)
  refine lv_aload_n hx hb dX4_init_48 rfl (lv_at hl 1 rfl) ?_
  refine va_get (D := wD X) (ci := 4) (v := .ref q2) (C := RX4) (T := TX4) (N := 6) hx hb hts j_X4 hown hK hP 0 rfl rfl 3 (by decide) (hts _ (wU_in _ m_147)) (fun x9 h9 => h9) rfl dX4_init_49 ?_
  refine lv_iload_n hx hb dX4_init_52 rfl (lv_at hl 0 rfl) ?_
  refine lv_bipush (v := (-9)) hx hb dX4_init_53 (by decide) ?_
  refine va_iast hx hb hK hP hD hS 3 0 rfl rfl (okI_in (j := 7) (n := 12) (by decide)) dX4_init_55 (fun H locs hP hD hS => ?_)
  have hP : va_P (wD X) classes [(h0, .inr (4, [.ref st0, .ref q0, .ref q1, .ref q2, .ref q3, .int 0])), (q0, .inl (X.2.2.1 0, 16, .inl (fun _ => 0))), (q1, .inl (X.2.2.1 0, 4, .inl (fun _ => 0))), (q2, .inl (X.2.2.1 0, 12, .inl (fl 0 8 (fun _ => 0)))), (q3, .inl (X.2.2.1 0, 12, .inl (fun _ => 0)))] H := hP
  have hD : va_D A [(h0, .inr (4, [.ref st0, .ref q0, .ref q1, .ref q2, .ref q3, .int 0])), (q0, .inl (X.2.2.1 0, 16, .inl (fun _ => 0))), (q1, .inl (X.2.2.1 0, 4, .inl (fun _ => 0))), (q2, .inl (X.2.2.1 0, 12, .inl (fl 0 8 (fun _ => 0)))), (q3, .inl (X.2.2.1 0, 12, .inl (fun _ => 0)))] := hD
  refine lv_iinc (v := 8) (lv' := [(2, .int 8), (0, .ref h0), (1, .ref st0)]) hx hb dX4_init_56 hl (k := 0) rfl rfl (by decide) rfl (fun ls hl => ?_)
  refine lv_goto (tgt := 42) hx hb dX4_init_59 (by decide) ?_
  refine lv_iload_n hx hb dX4_init_42 rfl (lv_at hl 0 rfl) ?_
  refine lv_bipush (v := 12) hx hb dX4_init_43 (by decide) ?_
  refine lv_icmp_ge (tgt := 62) hx hb dX4_init_45 (by decide) (fun c1 => absurd c1 (by decide)) (fun _ => ?_)
  refine lv_aload_n hx hb dX4_init_48 rfl (lv_at hl 1 rfl) ?_
  refine va_get (D := wD X) (ci := 4) (v := .ref q2) (C := RX4) (T := TX4) (N := 6) hx hb hts j_X4 hown hK hP 0 rfl rfl 3 (by decide) (hts _ (wU_in _ m_147)) (fun x9 h9 => h9) rfl dX4_init_49 ?_
  refine lv_iload_n hx hb dX4_init_52 rfl (lv_at hl 0 rfl) ?_
  refine lv_bipush (v := (-9)) hx hb dX4_init_53 (by decide) ?_
  refine va_iast hx hb hK hP hD hS 3 0 rfl rfl (okI_in (j := 8) (n := 12) (by decide)) dX4_init_55 (fun H locs hP hD hS => ?_)
  have hP : va_P (wD X) classes [(h0, .inr (4, [.ref st0, .ref q0, .ref q1, .ref q2, .ref q3, .int 0])), (q0, .inl (X.2.2.1 0, 16, .inl (fun _ => 0))), (q1, .inl (X.2.2.1 0, 4, .inl (fun _ => 0))), (q2, .inl (X.2.2.1 0, 12, .inl (fl 0 9 (fun _ => 0)))), (q3, .inl (X.2.2.1 0, 12, .inl (fun _ => 0)))] H := hP
  have hD : va_D A [(h0, .inr (4, [.ref st0, .ref q0, .ref q1, .ref q2, .ref q3, .int 0])), (q0, .inl (X.2.2.1 0, 16, .inl (fun _ => 0))), (q1, .inl (X.2.2.1 0, 4, .inl (fun _ => 0))), (q2, .inl (X.2.2.1 0, 12, .inl (fl 0 9 (fun _ => 0)))), (q3, .inl (X.2.2.1 0, 12, .inl (fun _ => 0)))] := hD
  refine lv_iinc (v := 9) (lv' := [(2, .int 9), (0, .ref h0), (1, .ref st0)]) hx hb dX4_init_56 hl (k := 0) rfl rfl (by decide) rfl (fun ls hl => ?_)
  refine lv_goto (tgt := 42) hx hb dX4_init_59 (by decide) ?_
  refine lv_iload_n hx hb dX4_init_42 rfl (lv_at hl 0 rfl) ?_
  refine lv_bipush (v := 12) hx hb dX4_init_43 (by decide) ?_
  refine lv_icmp_ge (tgt := 62) hx hb dX4_init_45 (by decide) (fun c1 => absurd c1 (by decide)) (fun _ => ?_)
  refine lv_aload_n hx hb dX4_init_48 rfl (lv_at hl 1 rfl) ?_
  refine va_get (D := wD X) (ci := 4) (v := .ref q2) (C := RX4) (T := TX4) (N := 6) hx hb hts j_X4 hown hK hP 0 rfl rfl 3 (by decide) (hts _ (wU_in _ m_147)) (fun x9 h9 => h9) rfl dX4_init_49 ?_
  refine lv_iload_n hx hb dX4_init_52 rfl (lv_at hl 0 rfl) ?_
  refine lv_bipush (v := (-9)) hx hb dX4_init_53 (by decide) ?_
  refine va_iast hx hb hK hP hD hS 3 0 rfl rfl (okI_in (j := 9) (n := 12) (by decide)) dX4_init_55 (fun H locs hP hD hS => ?_)
  have hP : va_P (wD X) classes [(h0, .inr (4, [.ref st0, .ref q0, .ref q1, .ref q2, .ref q3, .int 0])), (q0, .inl (X.2.2.1 0, 16, .inl (fun _ => 0))), (q1, .inl (X.2.2.1 0, 4, .inl (fun _ => 0))), (q2, .inl (X.2.2.1 0, 12, .inl (fl 0 10 (fun _ => 0)))), (q3, .inl (X.2.2.1 0, 12, .inl (fun _ => 0)))] H := hP
  have hD : va_D A [(h0, .inr (4, [.ref st0, .ref q0, .ref q1, .ref q2, .ref q3, .int 0])), (q0, .inl (X.2.2.1 0, 16, .inl (fun _ => 0))), (q1, .inl (X.2.2.1 0, 4, .inl (fun _ => 0))), (q2, .inl (X.2.2.1 0, 12, .inl (fl 0 10 (fun _ => 0)))), (q3, .inl (X.2.2.1 0, 12, .inl (fun _ => 0)))] := hD
  refine lv_iinc (v := 10) (lv' := [(2, .int 10), (0, .ref h0), (1, .ref st0)]) hx hb dX4_init_56 hl (k := 0) rfl rfl (by decide) rfl (fun ls hl => ?_)
  refine lv_goto (tgt := 42) hx hb dX4_init_59 (by decide) ?_
  refine lv_iload_n hx hb dX4_init_42 rfl (lv_at hl 0 rfl) ?_
  refine lv_bipush (v := 12) hx hb dX4_init_43 (by decide) ?_
  refine lv_icmp_ge (tgt := 62) hx hb dX4_init_45 (by decide) (fun c1 => absurd c1 (by decide)) (fun _ => ?_)
  refine lv_aload_n hx hb dX4_init_48 rfl (lv_at hl 1 rfl) ?_
  refine va_get (D := wD X) (ci := 4) (v := .ref q2) (C := RX4) (T := TX4) (N := 6) hx hb hts j_X4 hown hK hP 0 rfl rfl 3 (by decide) (hts _ (wU_in _ m_147)) (fun x9 h9 => h9) rfl dX4_init_49 ?_
  refine lv_iload_n hx hb dX4_init_52 rfl (lv_at hl 0 rfl) ?_
  refine lv_bipush (v := (-9)) hx hb dX4_init_53 (by decide) ?_
  refine va_iast hx hb hK hP hD hS 3 0 rfl rfl (okI_in (j := 10) (n := 12) (by decide)) dX4_init_55 (fun H locs hP hD hS => ?_)
  have hP : va_P (wD X) classes [(h0, .inr (4, [.ref st0, .ref q0, .ref q1, .ref q2, .ref q3, .int 0])), (q0, .inl (X.2.2.1 0, 16, .inl (fun _ => 0))), (q1, .inl (X.2.2.1 0, 4, .inl (fun _ => 0))), (q2, .inl (X.2.2.1 0, 12, .inl (fl 0 11 (fun _ => 0)))), (q3, .inl (X.2.2.1 0, 12, .inl (fun _ => 0)))] H := hP
  have hD : va_D A [(h0, .inr (4, [.ref st0, .ref q0, .ref q1, .ref q2, .ref q3, .int 0])), (q0, .inl (X.2.2.1 0, 16, .inl (fun _ => 0))), (q1, .inl (X.2.2.1 0, 4, .inl (fun _ => 0))), (q2, .inl (X.2.2.1 0, 12, .inl (fl 0 11 (fun _ => 0)))), (q3, .inl (X.2.2.1 0, 12, .inl (fun _ => 0)))] := hD
  refine lv_iinc (v := 11) (lv' := [(2, .int 11), (0, .ref h0), (1, .ref st0)]) hx hb dX4_init_56 hl (k := 0) rfl rfl (by decide) rfl (fun ls hl => ?_)
  refine lv_goto (tgt := 42) hx hb dX4_init_59 (by decide) ?_
  refine lv_iload_n hx hb dX4_init_42 rfl (lv_at hl 0 rfl) ?_
  refine lv_bipush (v := 12) hx hb dX4_init_43 (by decide) ?_
  refine lv_icmp_ge (tgt := 62) hx hb dX4_init_45 (by decide) (fun c1 => absurd c1 (by decide)) (fun _ => ?_)
  refine lv_aload_n hx hb dX4_init_48 rfl (lv_at hl 1 rfl) ?_
  refine va_get (D := wD X) (ci := 4) (v := .ref q2) (C := RX4) (T := TX4) (N := 6) hx hb hts j_X4 hown hK hP 0 rfl rfl 3 (by decide) (hts _ (wU_in _ m_147)) (fun x9 h9 => h9) rfl dX4_init_49 ?_
  refine lv_iload_n hx hb dX4_init_52 rfl (lv_at hl 0 rfl) ?_
  refine lv_bipush (v := (-9)) hx hb dX4_init_53 (by decide) ?_
  refine va_iast hx hb hK hP hD hS 3 0 rfl rfl (okI_in (j := 11) (n := 12) (by decide)) dX4_init_55 (fun H locs hP hD hS => ?_)
  have hP : va_P (wD X) classes [(h0, .inr (4, [.ref st0, .ref q0, .ref q1, .ref q2, .ref q3, .int 0])), (q0, .inl (X.2.2.1 0, 16, .inl (fun _ => 0))), (q1, .inl (X.2.2.1 0, 4, .inl (fun _ => 0))), (q2, .inl (X.2.2.1 0, 12, .inl (fl 0 12 (fun _ => 0)))), (q3, .inl (X.2.2.1 0, 12, .inl (fun _ => 0)))] H := hP
  have hD : va_D A [(h0, .inr (4, [.ref st0, .ref q0, .ref q1, .ref q2, .ref q3, .int 0])), (q0, .inl (X.2.2.1 0, 16, .inl (fun _ => 0))), (q1, .inl (X.2.2.1 0, 4, .inl (fun _ => 0))), (q2, .inl (X.2.2.1 0, 12, .inl (fl 0 12 (fun _ => 0)))), (q3, .inl (X.2.2.1 0, 12, .inl (fun _ => 0)))] := hD
  refine lv_iinc (v := 12) (lv' := [(2, .int 12), (0, .ref h0), (1, .ref st0)]) hx hb dX4_init_56 hl (k := 0) rfl rfl (by decide) rfl (fun ls hl => ?_)
  refine lv_goto (tgt := 42) hx hb dX4_init_59 (by decide) ?_
  refine lv_iload_n hx hb dX4_init_42 rfl (lv_at hl 0 rfl) ?_
  refine lv_bipush (v := 12) hx hb dX4_init_43 (by decide) ?_
  refine lv_icmp_ge (tgt := 62) hx hb dX4_init_45 (by decide) (fun _ => ?_) (fun c1 => absurd (by decide) c1)
  exact W.vret hx hb hr (fun t ht hW => ⟨⟨(q0, q1, q2, q3), rfl, trivial, by rw [ht]; exact hP, hD⟩, hS.F ht⟩) hS.2.2 dX4_init_62
theorem hdI_X0_init : yX0_init.cls ≠ "java/lang/invoke/MethodHandle" ∧ yX0_init.cls ≠ "java/lang/invoke/VarHandle" ∧ (parseMethodDescriptor yX0_init.desc).map (fun d => d.parameters.length) = some 0 := by decide +kernel
def o_X0_init (X : Cx) (h0 : Nat) : Nat × Nat × Nat × Nat → va_W := fun u => [(h0, .inr (0, [.ref u.1, .ref u.2.1, .ref u.2.2.1, .ref u.2.2.2, .int 0, .int 0])), (u.1, .inl (X.2.2.1 0, 14, .inl (fun _ => 0))), (u.2.1, .inl (X.2.2.1 0, 14, .inl (fun _ => 0))), (u.2.2.1, .inl (X.2.2.1 0, 14, .inl (fun _ => 0))), (u.2.2.2, .inl (X.2.2.1 0, 14, .inl (fun _ => 0)))]
set_option maxHeartbeats 4000000 in
set_option maxRecDepth 100000 in
theorem I_X0_init (l : Launch) (X : Cx) (h0 sz : Nat) : Mn l X yX0_init cX0_init 1 1 12 4 56 [.ref h0] [(h0, .inr (0, [.null, .null, .null, .null, .int 0, .int 0]))] sz (fun _ : Nat × Nat × Nat × Nat => True) (o_X0_init X h0) := by
  unfold Mn
  refine Met.ofW (cc := cX0_init) (maxL := 1) (ret := none) (by decide) rfl ?_
  intro p e s m args below meth c s₁ B hml hv
  obtain ⟨rfl, hsz, hP, hK, hD0, hN, hO⟩ := hv
  have hx := B.exec
  have hb := B.bytes
  have hr := B.returns
  have hts := atoms_spec (ws := wU yX0_init cX0_init 1 none) B.pre
  have hown : s.vm.findClass RX0 = some m.cls := findClass_of_methodNamed B.named
  have hlocks := B.notSynchronized
  have hin : meth.name = "<init>" := (name_of_methodNamed B.named B.method).1
  subst hsz
  have hD := hD0.self (sz := s.heap.size)
  generalize hAe : va_A [(h0, .inr (0, [.null, .null, .null, .null, .int 0, .int 0]))] s.heap.size = A at hD ⊢
  have hA : ∀ q : Nat, s.heap.size ≤ q → A q := fun q h => by rw [← hAe]; exact Or.inr h
  have hS : va_S A s.heap s.heap [] := va_S.rf
  have hP : va_P (wD X) classes [(h0, .inr (0, [.null, .null, .null, .null, .int 0, .int 0]))] s.heap := hP
  have hl := lv_entry ([.ref h0]) (n := 1) (Nat.le_of_ble_eq_true rfl)
  rw [lg_entry_eq]
  generalize (lg_sl ([.ref h0]) ++ List.replicate (1 - (lg_sl ([.ref h0])).length) Slot.unset).toArray = ls at hl ⊢
  have hl : lv_has ls 1 [(0, .ref h0)] := hl
  refine lv_aload_n hx hb dX0_init_0 rfl (lv_at hl 0 rfl) ?_
  refine W.objInit hx hb hown (hts _ (wU_in _ m_171)) (hts _ (wU_in _ m_52)) (hts _ (wU_in _ m_53)) rfl (by rw [hml]; exact hl.1) rfl dX0_init_1 (Nat.le_of_ble_eq_true rfl) (Nat.le_of_ble_eq_true rfl) ?_
  refine W.eq (g2 := F0 m 4 ls []) rfl ?_
  refine lv_aload_n hx hb dX0_init_4 rfl (lv_at hl 0 rfl) ?_
  refine lv_bipush (v := 14) hx hb dX0_init_5 (by decide) ?_
  refine wi_int hx hb (hts _ (wU_in _ m_110)) hK hP hD hS hA 14 (by decide) rfl (Nat.le_of_ble_eq_true rfl) (Nat.le_of_ble_eq_true rfl) (Nat.le_of_ble_eq_true rfl) dX0_init_7 (fun q0 H hP hD hS => ?_)
  have hP : va_P (wD X) classes [(h0, .inr (0, [.null, .null, .null, .null, .int 0, .int 0])), (q0, .inl (X.2.2.1 0, 14, .inl (fun _ => 0)))] H := hP
  have hD : va_D A [(h0, .inr (0, [.null, .null, .null, .null, .int 0, .int 0])), (q0, .inl (X.2.2.1 0, 14, .inl (fun _ => 0)))] := hD
  refine W.widen (k := 1) (n := 14) (Nat.le_of_ble_eq_true rfl) (Nat.le_of_ble_eq_true rfl) ?_
  refine va_putF (D := wD X) (ci := 0) (v := .ref q0) (ty := .array .int) (C := RX0) (T := TX0) (N := 6) hx hb hts j_X0 tyX0 tyX0_ok nmX0 hown hK hP hD hS 0 rfl rfl 0 (by decide) (hts _ (wU_in _ m_172)) (fun _ h9 => h9) rfl hin rfl (by decide +kernel) rfl rfl (Nat.le_of_ble_eq_true rfl) dX0_init_9 (fun H locs hP hD hS => ?_)
  have hP : va_P (wD X) classes [(h0, .inr (0, [.ref q0, .null, .null, .null, .int 0, .int 0])), (q0, .inl (X.2.2.1 0, 14, .inl (fun _ => 0)))] H := hP
  have hD : va_D A [(h0, .inr (0, [.ref q0, .null, .null, .null, .int 0, .int 0])), (q0, .inl (X.2.2.1 0, 14, .inl (fun _ => 0)))] := hD
  refine lv_aload_n hx hb dX0_init_12 rfl (lv_at hl 0 rfl) ?_
  refine lv_bipush (v := 14) hx hb dX0_init_13 (by decide) ?_
  refine wi_int hx hb (hts _ (wU_in _ m_110)) hK hP hD hS hA 14 (by decide) rfl (Nat.le_of_ble_eq_true rfl) (Nat.le_of_ble_eq_true rfl) (Nat.le_of_ble_eq_true rfl) dX0_init_15 (fun q1 H hP hD hS => ?_)
  have hP : va_P (wD X) classes [(h0, .inr (0, [.ref q0, .null, .null, .null, .int 0, .int 0])), (q0, .inl (X.2.2.1 0, 14, .inl (fun _ => 0))), (q1, .inl (X.2.2.1 0, 14, .inl (fun _ => 0)))] H := hP
  have hD : va_D A [(h0, .inr (0, [.ref q0, .null, .null, .null, .int 0, .int 0])), (q0, .inl (X.2.2.1 0, 14, .inl (fun _ => 0))), (q1, .inl (X.2.2.1 0, 14, .inl (fun _ => 0)))] := hD
  refine W.widen (k := 2) (n := 28) (Nat.le_of_ble_eq_true rfl) (Nat.le_of_ble_eq_true rfl) ?_
  refine va_putF (D := wD X) (ci := 0) (v := .ref q1) (ty := .array .int) (C := RX0) (T := TX0) (N := 6) hx hb hts j_X0 tyX0 tyX0_ok nmX0 hown hK hP hD hS 0 rfl rfl 1 (by decide) (hts _ (wU_in _ m_173)) (fun _ h9 => h9) rfl hin rfl (by decide +kernel) rfl rfl (Nat.le_of_ble_eq_true rfl) dX0_init_17 (fun H locs hP hD hS => ?_)
  have hP : va_P (wD X) classes [(h0, .inr (0, [.ref q0, .ref q1, .null, .null, .int 0, .int 0])), (q0, .inl (X.2.2.1 0, 14, .inl (fun _ => 0))), (q1, .inl (X.2.2.1 0, 14, .inl (fun _ => 0)))] H := hP
  have hD : va_D A [(h0, .inr (0, [.ref q0, .ref q1, .null, .null, .int 0, .int 0])), (q0, .inl (X.2.2.1 0, 14, .inl (fun _ => 0))), (q1, .inl (X.2.2.1 0, 14, .inl (fun _ => 0)))] := hD
  refine lv_aload_n hx hb dX0_init_20 rfl (lv_at hl 0 rfl) ?_
  refine lv_bipush (v := 14) hx hb dX0_init_21 (by decide) ?_
  refine wi_int hx hb (hts _ (wU_in _ m_110)) hK hP hD hS hA 14 (by decide) rfl (Nat.le_of_ble_eq_true rfl) (Nat.le_of_ble_eq_true rfl) (Nat.le_of_ble_eq_true rfl) dX0_init_23 (fun q2 H hP hD hS => ?_)
  have hP : va_P (wD X) classes [(h0, .inr (0, [.ref q0, .ref q1, .null, .null, .int 0, .int 0])), (q0, .inl (X.2.2.1 0, 14, .inl (fun _ => 0))), (q1, .inl (X.2.2.1 0, 14, .inl (fun _ => 0))), (q2, .inl (X.2.2.1 0, 14, .inl (fun _ => 0)))] H := hP
  have hD : va_D A [(h0, .inr (0, [.ref q0, .ref q1, .null, .null, .int 0, .int 0])), (q0, .inl (X.2.2.1 0, 14, .inl (fun _ => 0))), (q1, .inl (X.2.2.1 0, 14, .inl (fun _ => 0))), (q2, .inl (X.2.2.1 0, 14, .inl (fun _ => 0)))] := hD
  refine W.widen (k := 3) (n := 42) (Nat.le_of_ble_eq_true rfl) (Nat.le_of_ble_eq_true rfl) ?_
  refine va_putF (D := wD X) (ci := 0) (v := .ref q2) (ty := .array .int) (C := RX0) (T := TX0) (N := 6) hx hb hts j_X0 tyX0 tyX0_ok nmX0 hown hK hP hD hS 0 rfl rfl 2 (by decide) (hts _ (wU_in _ m_174)) (fun _ h9 => h9) rfl hin rfl (by decide +kernel) rfl rfl (Nat.le_of_ble_eq_true rfl) dX0_init_25 (fun H locs hP hD hS => ?_)
  have hP : va_P (wD X) classes [(h0, .inr (0, [.ref q0, .ref q1, .ref q2, .null, .int 0, .int 0])), (q0, .inl (X.2.2.1 0, 14, .inl (fun _ => 0))), (q1, .inl (X.2.2.1 0, 14, .inl (fun _ => 0))), (q2, .inl (X.2.2.1 0, 14, .inl (fun _ => 0)))] H := hP
  have hD : va_D A [(h0, .inr (0, [.ref q0, .ref q1, .ref q2, .null, .int 0, .int 0])), (q0, .inl (X.2.2.1 0, 14, .inl (fun _ => 0))), (q1, .inl (X.2.2.1 0, 14, .inl (fun _ => 0))), (q2, .inl (X.2.2.1 0, 14, .inl (fun _ => 0)))] := hD
  refine lv_aload_n hx hb dX0_init_28 rfl (lv_at hl 0 rfl) ?_
  refine lv_bipush (v := 14) hx hb dX0_init_29 (by decide) ?_
  refine wi_int hx hb (hts _ (wU_in _ m_110)) hK hP hD hS hA 14 (by decide) rfl (Nat.le_of_ble_eq_true rfl) (Nat.le_of_ble_eq_true rfl) (Nat.le_of_ble_eq_true rfl) dX0_init_31 (fun q3 H hP hD hS => ?_)
  have hP : va_P (wD X) classes [(h0, .inr (0, [.ref q0, .ref q1, .ref q2, .null, .int 0, .int 0])), (q0, .inl (X.2.2.1 0, 14, .inl (fun _ => 0))), (q1, .inl (X.2.2.1 0, 14, .inl (fun _ => 0))), (q2, .inl (X.2.2.1 0, 14, .inl (fun _ => 0))), (q3, .inl (X.2.2.1 0, 14, .inl (fun _ => 0)))] H := hP
  have hD : va_D A [(h0, .inr (0, [.ref q0, .ref q1, .ref q2, .null, .int 0, .int 0])), (q0, .inl (X.2.2.1 0, 14, .inl (fun _ => 0))), (q1, .inl (X.2.2.1 0, 14, .inl (fun _ => 0))), (q2, .inl (X.2.2.1 0, 14, .inl (fun _ => 0))), (q3, .inl (X.2.2.1 0, 14, .inl (fun _ => 0)))] := hD
  refine W.widen (k := 4) (n := 56) (Nat.le_of_ble_eq_true rfl) (Nat.le_of_ble_eq_true rfl) ?_
  refine va_putF (D := wD X) (ci := 0) (v := .ref q3) (ty := .array .int) (C := RX0) (T := TX0) (N := 6) hx hb hts j_X0 tyX0 tyX0_ok nmX0 hown hK hP hD hS 0 rfl rfl 3 (by decide) (hts _ (wU_in _ m_175)) (fun _ h9 => h9) rfl hin rfl (by decide +kernel) rfl rfl (Nat.le_of_ble_eq_true rfl) dX0_init_33 (fun H locs hP hD hS => ?_)
  have hP : va_P (wD X) classes [(h0, .inr (0, [.ref q0, .ref q1, .ref q2, .ref q3, .int 0, .int 0])), (q0, .inl (X.2.2.1 0, 14, .inl (fun _ => 0))), (q1, .inl (X.2.2.1 0, 14, .inl (fun _ => 0))), (q2, .inl (X.2.2.1 0, 14, .inl (fun _ => 0))), (q3, .inl (X.2.2.1 0, 14, .inl (fun _ => 0)))] H := hP
  have hD : va_D A [(h0, .inr (0, [.ref q0, .ref q1, .ref q2, .ref q3, .int 0, .int 0])), (q0, .inl (X.2.2.1 0, 14, .inl (fun _ => 0))), (q1, .inl (X.2.2.1 0, 14, .inl (fun _ => 0))), (q2, .inl (X.2.2.1 0, 14, .inl (fun _ => 0))), (q3, .inl (X.2.2.1 0, 14, .inl (fun _ => 0)))] := hD
  exact W.vret hx hb hr (fun t ht hW => ⟨⟨(q0, q1, q2, q3), rfl, trivial, by rw [ht]; exact hP, hD⟩, hS.F ht⟩) hS.2.2 dX0_init_36
theorem hdI_X1_init : yX1_init.cls ≠ "java/lang/invoke/MethodHandle" ∧ yX1_init.cls ≠ "java/lang/invoke/VarHandle" ∧ (parseMethodDescriptor yX1_init.desc).map (fun d => d.parameters.length) = some 0 := by decide +kernel
def o_X1_init (X : Cx) (h0 : Nat) : Nat × Nat × Nat × Nat → va_W := fun u => [(h0, .inr (1, [.ref u.1, .ref u.2.1, .ref u.2.2.1, .ref u.2.2.2, .int 0])), (u.1, .inl (X.2.2.1 0, 6, .inl (fun _ => 0))), (u.2.1, .inl (X.2.2.1 0, 6, .inl (fun _ => 0))), (u.2.2.1, .inl (X.2.2.1 0, 6, .inl (fun _ => 0))), (u.2.2.2, .inl (X.2.2.1 1, 6, .inl (fun _ => 0)))]
set_option maxHeartbeats 4000000 in
set_option maxRecDepth 100000 in
theorem I_X1_init (l : Launch) (X : Cx) (h0 sz : Nat) : Mn l X yX1_init cX1_init 1 1 12 4 24 [.ref h0] [(h0, .inr (1, [.null, .null, .null, .null, .int 0]))] sz (fun _ : Nat × Nat × Nat × Nat => True) (o_X1_init X h0) := by
  unfold Mn
  refine Met.ofW (cc := cX1_init) (maxL := 1) (ret := none) (by decide) rfl ?_
  intro p e s m args below meth c s₁ B hml hv
  obtain ⟨rfl, hsz, hP, hK, hD0, hN, hO⟩ := hv
  have hx := B.exec
  have hb := B.bytes
  have hr := B.returns
  have hts := atoms_spec (ws := wU yX1_init cX1_init 1 none) B.pre
  have hown : s.vm.findClass RX1 = some m.cls := findClass_of_methodNamed B.named
  have hlocks := B.notSynchronized
  have hin : meth.name = "<init>" := (name_of_methodNamed B.named B.method).1
  subst hsz
  have hD := hD0.self (sz := s.heap.size)
  generalize hAe : va_A [(h0, .inr (1, [.null, .null, .null, .null, .int 0]))] s.heap.size = A at hD ⊢
  have hA : ∀ q : Nat, s.heap.size ≤ q → A q := fun q h => by rw [← hAe]; exact Or.inr h
  have hS : va_S A s.heap s.heap [] := va_S.rf
  have hP : va_P (wD X) classes [(h0, .inr (1, [.null, .null, .null, .null, .int 0]))] s.heap := hP
  have hl := lv_entry ([.ref h0]) (n := 1) (Nat.le_of_ble_eq_true rfl)
  rw [lg_entry_eq]
  generalize (lg_sl ([.ref h0]) ++ List.replicate (1 - (lg_sl ([.ref h0])).length) Slot.unset).toArray = ls at hl ⊢
  have hl : lv_has ls 1 [(0, .ref h0)] := hl
  refine lv_aload_n hx hb dX1_init_0 rfl (lv_at hl 0 rfl) ?_
  refine W.objInit hx hb hown (hts _ (wU_in _ m_198)) (hts _ (wU_in _ m_52)) (hts _ (wU_in _ m_53)) rfl (by rw [hml]; exact hl.1) rfl dX1_init_1 (Nat.le_of_ble_eq_true rfl) (Nat.le_of_ble_eq_true rfl) ?_
  refine W.eq (g2 := F0 m 4 ls []) rfl ?_
  refine lv_aload_n hx hb dX1_init_4 rfl (lv_at hl 0 rfl) ?_
  refine lv_bipush (v := 6) hx hb dX1_init_5 (by decide) ?_
  refine wi_int hx hb (hts _ (wU_in _ m_110)) hK hP hD hS hA 6 (by decide) rfl (Nat.le_of_ble_eq_true rfl) (Nat.le_of_ble_eq_true rfl) (Nat.le_of_ble_eq_true rfl) dX1_init_7 (fun q0 H hP hD hS => ?_)
  have hP : va_P (wD X) classes [(h0, .inr (1, [.null, .null, .null, .null, .int 0])), (q0, .inl (X.2.2.1 0, 6, .inl (fun _ => 0)))] H := hP
  have hD : va_D A [(h0, .inr (1, [.null, .null, .null, .null, .int 0])), (q0, .inl (X.2.2.1 0, 6, .inl (fun _ => 0)))] := hD
  refine W.widen (k := 1) (n := 6) (Nat.le_of_ble_eq_true rfl) (Nat.le_of_ble_eq_true rfl) ?_
  refine va_putF (D := wD X) (ci := 1) (v := .ref q0) (ty := .array .int) (C := RX1) (T := TX1) (N := 5) hx hb hts j_X1 tyX1 tyX1_ok nmX1 hown hK hP hD hS 0 rfl rfl 0 (by decide) (hts _ (wU_in _ m_199)) (fun _ h9 => h9) rfl hin rfl (by decide +kernel) rfl rfl (Nat.le_of_ble_eq_true rfl) dX1_init_9 (fun H locs hP hD hS => ?_)
  have hP : va_P (wD X) classes [(h0, .inr (1, [.ref q0, .null, .null, .null, .int 0])), (q0, .inl (X.2.2.1 0, 6, .inl (fun _ => 0)))] H := hP
  have hD : va_D A [(h0, .inr (1, [.ref q0, .null, .null, .null, .int 0])), (q0, .inl (X.2.2.1 0, 6, .inl (fun _ => 0)))] := hD
  refine lv_aload_n hx hb dX1_init_12 rfl (lv_at hl 0 rfl) ?_
  refine lv_bipush (v := 6) hx hb dX1_init_13 (by decide) ?_
  refine wi_int hx hb (hts _ (wU_in _ m_110)) hK hP hD hS hA 6 (by decide) rfl (Nat.le_of_ble_eq_true rfl) (Nat.le_of_ble_eq_true rfl) (Nat.le_of_ble_eq_true rfl) dX1_init_15 (fun q1 H hP hD hS => ?_)
  have hP : va_P (wD X) classes [(h0, .inr (1, [.ref q0, .null, .null, .null, .int 0])), (q0, .inl (X.2.2.1 0, 6, .inl (fun _ => 0))), (q1, .inl (X.2.2.1 0, 6, .inl (fun _ => 0)))] H := hP
  have hD : va_D A [(h0, .inr (1, [.ref q0, .null, .null, .null, .int 0])), (q0, .inl (X.2.2.1 0, 6, .inl (fun _ => 0))), (q1, .inl (X.2.2.1 0, 6, .inl (fun _ => 0)))] := hD
  refine W.widen (k := 2) (n := 12) (Nat.le_of_ble_eq_true rfl) (Nat.le_of_ble_eq_true rfl) ?_
  refine va_putF (D := wD X) (ci := 1) (v := .ref q1) (ty := .array .int) (C := RX1) (T := TX1) (N := 5) hx hb hts j_X1 tyX1 tyX1_ok nmX1 hown hK hP hD hS 0 rfl rfl 1 (by decide) (hts _ (wU_in _ m_200)) (fun _ h9 => h9) rfl hin rfl (by decide +kernel) rfl rfl (Nat.le_of_ble_eq_true rfl) dX1_init_17 (fun H locs hP hD hS => ?_)
  have hP : va_P (wD X) classes [(h0, .inr (1, [.ref q0, .ref q1, .null, .null, .int 0])), (q0, .inl (X.2.2.1 0, 6, .inl (fun _ => 0))), (q1, .inl (X.2.2.1 0, 6, .inl (fun _ => 0)))] H := hP
  have hD : va_D A [(h0, .inr (1, [.ref q0, .ref q1, .null, .null, .int 0])), (q0, .inl (X.2.2.1 0, 6, .inl (fun _ => 0))), (q1, .inl (X.2.2.1 0, 6, .inl (fun _ => 0)))] := hD
  refine lv_aload_n hx hb dX1_init_20 rfl (lv_at hl 0 rfl) ?_
  refine lv_bipush (v := 6) hx hb dX1_init_21 (by decide) ?_
  refine wi_int hx hb (hts _ (wU_in _ m_110)) hK hP hD hS hA 6 (by decide) rfl (Nat.le_of_ble_eq_true rfl) (Nat.le_of_ble_eq_true rfl) (Nat.le_of_ble_eq_true rfl) dX1_init_23 (fun q2 H hP hD hS => ?_)
  have hP : va_P (wD X) classes [(h0, .inr (1, [.ref q0, .ref q1, .null, .null, .int 0])), (q0, .inl (X.2.2.1 0, 6, .inl (fun _ => 0))), (q1, .inl (X.2.2.1 0, 6, .inl (fun _ => 0))), (q2, .inl (X.2.2.1 0, 6, .inl (fun _ => 0)))] H := hP
  have hD : va_D A [(h0, .inr (1, [.ref q0, .ref q1, .null, .null, .int 0])), (q0, .inl (X.2.2.1 0, 6, .inl (fun _ => 0))), (q1, .inl (X.2.2.1 0, 6, .inl (fun _ => 0))), (q2, .inl (X.2.2.1 0, 6, .inl (fun _ => 0)))] := hD
  refine W.widen (k := 3) (n := 18) (Nat.le_of_ble_eq_true rfl) (Nat.le_of_ble_eq_true rfl) ?_
  refine va_putF (D := wD X) (ci := 1) (v := .ref q2) (ty := .array .int) (C := RX1) (T := TX1) (N := 5) hx hb hts j_X1 tyX1 tyX1_ok nmX1 hown hK hP hD hS 0 rfl rfl 2 (by decide) (hts _ (wU_in _ m_201)) (fun _ h9 => h9) rfl hin rfl (by decide +kernel) rfl rfl (Nat.le_of_ble_eq_true rfl) dX1_init_25 (fun H locs hP hD hS => ?_)
  have hP : va_P (wD X) classes [(h0, .inr (1, [.ref q0, .ref q1, .ref q2, .null, .int 0])), (q0, .inl (X.2.2.1 0, 6, .inl (fun _ => 0))), (q1, .inl (X.2.2.1 0, 6, .inl (fun _ => 0))), (q2, .inl (X.2.2.1 0, 6, .inl (fun _ => 0)))] H := hP
  have hD : va_D A [(h0, .inr (1, [.ref q0, .ref q1, .ref q2, .null, .int 0])), (q0, .inl (X.2.2.1 0, 6, .inl (fun _ => 0))), (q1, .inl (X.2.2.1 0, 6, .inl (fun _ => 0))), (q2, .inl (X.2.2.1 0, 6, .inl (fun _ => 0)))] := hD
  refine lv_aload_n hx hb dX1_init_28 rfl (lv_at hl 0 rfl) ?_
  refine lv_bipush (v := 6) hx hb dX1_init_29 (by decide) ?_
  refine wi_bool hx hb (hts _ (wU_in _ m_192)) hK hP hD hS hA 6 (by decide) rfl (Nat.le_of_ble_eq_true rfl) (Nat.le_of_ble_eq_true rfl) (Nat.le_of_ble_eq_true rfl) dX1_init_31 (fun q3 H hP hD hS => ?_)
  have hP : va_P (wD X) classes [(h0, .inr (1, [.ref q0, .ref q1, .ref q2, .null, .int 0])), (q0, .inl (X.2.2.1 0, 6, .inl (fun _ => 0))), (q1, .inl (X.2.2.1 0, 6, .inl (fun _ => 0))), (q2, .inl (X.2.2.1 0, 6, .inl (fun _ => 0))), (q3, .inl (X.2.2.1 1, 6, .inl (fun _ => 0)))] H := hP
  have hD : va_D A [(h0, .inr (1, [.ref q0, .ref q1, .ref q2, .null, .int 0])), (q0, .inl (X.2.2.1 0, 6, .inl (fun _ => 0))), (q1, .inl (X.2.2.1 0, 6, .inl (fun _ => 0))), (q2, .inl (X.2.2.1 0, 6, .inl (fun _ => 0))), (q3, .inl (X.2.2.1 1, 6, .inl (fun _ => 0)))] := hD
  refine W.widen (k := 4) (n := 24) (Nat.le_of_ble_eq_true rfl) (Nat.le_of_ble_eq_true rfl) ?_
  refine va_putF (D := wD X) (ci := 1) (v := .ref q3) (ty := .array .boolean) (C := RX1) (T := TX1) (N := 5) hx hb hts j_X1 tyX1 tyX1_ok nmX1 hown hK hP hD hS 0 rfl rfl 3 (by decide) (hts _ (wU_in _ m_202)) (fun _ h9 => h9) rfl hin rfl (by decide +kernel) rfl rfl (Nat.le_of_ble_eq_true rfl) dX1_init_33 (fun H locs hP hD hS => ?_)
  have hP : va_P (wD X) classes [(h0, .inr (1, [.ref q0, .ref q1, .ref q2, .ref q3, .int 0])), (q0, .inl (X.2.2.1 0, 6, .inl (fun _ => 0))), (q1, .inl (X.2.2.1 0, 6, .inl (fun _ => 0))), (q2, .inl (X.2.2.1 0, 6, .inl (fun _ => 0))), (q3, .inl (X.2.2.1 1, 6, .inl (fun _ => 0)))] H := hP
  have hD : va_D A [(h0, .inr (1, [.ref q0, .ref q1, .ref q2, .ref q3, .int 0])), (q0, .inl (X.2.2.1 0, 6, .inl (fun _ => 0))), (q1, .inl (X.2.2.1 0, 6, .inl (fun _ => 0))), (q2, .inl (X.2.2.1 0, 6, .inl (fun _ => 0))), (q3, .inl (X.2.2.1 1, 6, .inl (fun _ => 0)))] := hD
  exact W.vret hx hb hr (fun t ht hW => ⟨⟨(q0, q1, q2, q3), rfl, trivial, by rw [ht]; exact hP, hD⟩, hS.F ht⟩) hS.2.2 dX1_init_36
