/-! what the law knows at its entry -/
theorem law_K {args : Array Value} {s : State} (hts : ∀ w ∈ lw_tbl, w.before args s = true) : ∃ (dC : Nat → ClassId) (dI : Nat → Nat → Nat) (aC : Nat → ClassId), va_K (dC, dI) classes [(aC 0, .int), (aC 1, .boolean), (aC 2, .object "WordKin$Ways")] s := by
  obtain ⟨c0, i0, k0⟩ := u_known (C := RX0) (T := TX0) (N := 6) hts (fun w q => tT_tbl (i_X0 w q)) (hts _ (tT_tbl m_167))
  obtain ⟨c1, i1, k1⟩ := u_known (C := RX1) (T := TX1) (N := 5) hts (fun w q => tT_tbl (i_X1 w q)) (hts _ (tT_tbl m_194))
  obtain ⟨c2, i2, k2⟩ := u_known (C := RX2) (T := TX2) (N := 4) hts (fun w q => tT_tbl (i_X2 w q)) (hts _ (tT_tbl m_112))
  obtain ⟨c3, i3, k3⟩ := u_known (C := RX3) (T := TX3) (N := 13) hts (fun w q => tT_tbl (i_X3 w q)) (hts _ (tT_tbl m_55))
  obtain ⟨c4, i4, k4⟩ := u_known (C := RX4) (T := TX4) (N := 6) hts (fun w q => tT_tbl (i_X4 w q)) (hts _ (tT_tbl m_138))
  obtain ⟨c5, i5, k5⟩ := u_known (C := RX6) (T := TX6) (N := 9) hts (fun w q => tT_tbl (i_X6 w q)) (hts _ (tT_tbl m_47))
  obtain ⟨c6, i6, k6⟩ := u_known (C := RX7) (T := TX7) (N := 30) hts (fun w q => tT_tbl (i_X7 w q)) (hts _ (tT_tbl m_615))
  obtain ⟨a0, kA0, p0, f0, g0, h0⟩ := Cond.arrayClass_spec (hts _ (tT_tbl m_110))
  obtain ⟨a1, kA1, p1, f1, g1, h1⟩ := Cond.arrayClass_spec (hts _ (tT_tbl m_192))
  obtain ⟨p2, a2, kA2, e2, -, g2, h2, f2⟩ := Cond.arrayOver_spec (hts (.arrayOver (.object "WordKin$Ways")) (List.mem_of_getElem? (i := 165) (by decide +kernel)))
  refine ⟨fun c => ([c0, c1, c2, c3, c4, c5, c6] : List ClassId).getD c c0, fun c => ([i0, i1, i2, i3, i4, i5, i6] : List (Nat → Nat)).getD c i0, fun c => ([a0, a1, a2] : List ClassId).getD c a0, fun c q hq => ?_, fun k q hq => ?_⟩
  · have hl : c < 7 := (List.getElem?_eq_some_iff.mp hq).1
    rcases (show c = 0 ∨ c = 1 ∨ c = 2 ∨ c = 3 ∨ c = 4 ∨ c = 5 ∨ c = 6 by omega) with rfl | rfl | rfl | rfl | rfl | rfl | rfl
    · cases hq; exact k0
    · cases hq; exact k1
    · cases hq; exact k2
    · cases hq; exact k3
    · cases hq; exact k4
    · cases hq; exact k5
    · cases hq; exact k6
  · have hl : k < 3 := (List.getElem?_eq_some_iff.mp hq).1
    rcases (show k = 0 ∨ k = 1 ∨ k = 2 by omega) with rfl | rfl | rfl
    · cases hq; exact ⟨fun n z => ⟨fun k h => (by cases h), kA0, g0, p0, h0⟩, f0⟩
    · cases hq; exact ⟨fun n z => ⟨fun k h => (by cases h), kA1, g1, p1, h1⟩, f1⟩
    · cases hq; exact ⟨fun n z => ⟨fun k h => (by cases h), kA2, g2, p2, h2⟩, kA2, p2, g2, h2, e2, f2⟩
theorem law_N {args : Array Value} {s : State} (hts : ∀ w ∈ lw_tbl, w.before args s = true) : Nst s := fun w hw => va_Nw.of (nestW_on w hw) (hts w (nestW_in w hw))
theorem law_O {args : Array Value} {s : State} (hts : ∀ w ∈ lw_tbl, w.before args s = true) : va_AO "WordKin$Ways" s := va_AO.of (hts (.arrayOver (.object "WordKin$Ways")) (List.mem_of_getElem? (i := 165) (by decide +kernel)))
abbrev nA (s : State) : Nat → Prop := fun q => s.heap.size ≤ q
def Fl (fa : Nat) (s : State) : Prop := va_Z "WordKin" "FACTORIALS" "[I" (.ref fa) (nA s) s s.heap ∧ va_X fa 5 fct s s.heap ∧ fa < s.heap.size
theorem law_F {args : Array Value} {s : State} (hts : ∀ w ∈ lw_tbl, w.before args s = true) (h : (Jvm.Cond.and given_1 narrow_1).before args s = true) : ∃ fa, Fl fa s := by
  have hs := flat_of_before _ h
  have harr : (Cond.arrayOf (.static "WordKin" "FACTORIALS" "[I") .int).before args s = true := hs _ (by decide +kernel)
  have hlen := va_eqt (hs (.eq (.length (.static "WordKin" "FACTORIALS" "[I")) (.int 5)) (by decide +kernel))
  have e0 := va_eqt (hs (.eq (.elem (.static "WordKin" "FACTORIALS" "[I") (.int 0)) (.int 1)) (by decide +kernel))
  have e1 := va_eqt (hs (.eq (.elem (.static "WordKin" "FACTORIALS" "[I") (.int 1)) (.int 1)) (by decide +kernel))
  have e2 := va_eqt (hs (.eq (.elem (.static "WordKin" "FACTORIALS" "[I") (.int 2)) (.int 2)) (by decide +kernel))
  have e3 := va_eqt (hs (.eq (.elem (.static "WordKin" "FACTORIALS" "[I") (.int 3)) (.int 6)) (by decide +kernel))
  have e4 := va_eqt (hs (.eq (.elem (.static "WordKin" "FACTORIALS" "[I") (.int 4)) (.int 24)) (by decide +kernel))
  obtain ⟨t, ht, cell, q1, q2, q3, q4, q5, q6, q7⟩ := va_Tof (N := 5) (f := fun j => .int (fct j)) (A := nA s) (by decide) harr hlen (fun j hj => by
    rcases (show j = 0 ∨ j = 1 ∨ j = 2 ∨ j = 3 ∨ j = 4 by omega) with rfl | rfl | rfl | rfl | rfl
    · exact e0
    · exact e1
    · exact e2
    · exact e3
    · exact e4) (fun a ha z => by have z : s.heap.size ≤ a := z; omega)
  have hlt : t < s.heap.size := (Array.getElem?_eq_some_iff.mp q1).1
  have hsz : cell.slots.size < 2 ^ 31 := by
    obtain ⟨t2, cell2, ht2, hat, -⟩ := Term.length_spec hlen
    cases ht.symm.trans ht2
    obtain ⟨hcell, -, -, -⟩ := State.arrayAt?_spec hat
    cases q1.symm.trans hcell
    have hv := hlen
    simp only [Term.eval, Option.bind_eq_bind] at hv ht
    by_cases hl : cell.slots.size < 2147483648
    · exact hl
    · simp [ht, hat, hl] at hv
  have h5 : cell.slots.size = 5 := by
    have e : nI cell.slots.size = nI 5 := q5
    exact (nI_eq hsz (by decide)).1 e
  refine ⟨t, va_Zof (hts (.laysStatic "WordKin" "FACTORIALS" "[I") (List.mem_of_getElem? (i := 545) (by decide +kernel))) (hts _ (tT_tbl m_35)) ht (fun a ha z => by have z : s.heap.size ≤ a := z; omega), ⟨cell, q1, q2, q3, h5, q6⟩, hlt⟩
section WF
variable {p : Program} {l : Launch} {e : Env} {R : Room} {s : State} {m : MethodId} {args : Array Value} {below : List Frame} {meth : Method} {c : Code} {H : Heap} {locs : List Loc} {cells slots : Nat} {Q : State → Prop} {cc : ByteArray} {pc nL : Nat} {ls : Array Slot} {rest st0 : List Value} {X : Cx} {h : Hp} {Ts : List Cond} {own : String}
variable {y : MethodName} {bytes : ByteArray} {maxL index n fr lo : Nat} {ret : Option FieldType} {As : List Value}
theorem Fx_blind {fa : Nat} {av : List Value} : FrameBlind (va_Pc av (fun U => Wd X h U ∧ Fx X fa U)) := fun a U g mk q => ⟨q.1, ⟨q.2.1.1, va_K.moved (u := U) (U := U.calling g mk a) (Vm.Alike.refl U.vm) q.2.1.2.1, fun w hw => va_Nw.same (u := U) (nestW_on w hw) (show U.vm = (U.calling g mk a).vm from rfl) (q.2.1.2.2 w hw)⟩, va_Z.moved (u := U) (U := U.calling g mk a) (Vm.Alike.refl U.vm) q.2.2.1, va_X.moved (u := U) (U := U.calling g mk a) (Vm.Alike.refl U.vm) q.2.2.2.1, q.2.2.2.2⟩
theorem wk_callF (S : CallFix p m c cc nL s args Ts own) (hK : va_K (wD X) classes (tyS X) s) (hN : Nst s) (hH : HS X (nA s) h s H locs) {fa : Nat} (hF : Fl fa s) {r0 : Int32} {h0 : Hp} {b ci : Nat} {C : String} {T : u_T} {N : Nat} (hb : tY b = ci) (hc : ci < 100) (hC : classes[ci]? = some (C, T, N)) (hM : Met l y (wU y bytes maxL ret) ({ frames := fr, cells := 0, slots := 0, locals := lo }) (va_Pc (.ref (X.2.2.2 b) :: As) (fun U => Wd X h U ∧ Fx X fa U)) (cQi X r0 h0) 0 0 (AD X)) (cw : CallW R s args own C index y bytes maxL ret (wU y bytes maxL ret) ({ frames := fr, cells := 0, slots := 0, locals := lo }) 0 0 n) (hsz : ls.size = nL) (hn : As.length = n) (hst : st0 = As.reverse ++ .ref (X.2.2.2 b) :: rest) (hw : (rest.map fun v => v.category).sum ≤ 8) (hdg : decode cc pc = .ok (.invokevirtual index, 3)) (hroom : cells ≤ R.cells ∧ slots ≤ R.slots)
    (kk : ∀ (H1 : Heap) (locs1 : List Loc), HS X (nA s) h0 s H1 locs1 → W p l e R s m args below meth c H1 locs1 cells slots Q (F0 m (pc + 3) ls (.int r0 :: rest))) : W p l e R s m args below meth c H locs cells slots Q (F0 m pc ls st0) := by
  subst hst
  have hS := hH.2.1
  have kp : ∀ a : Nat, a < s.heap.size → ¬ nA s a → H[a]? = s.heap[a]? := fun a h1 h2 => hS.2.1 a h1 h2
  have hfa : ¬ nA s fa := fun z => by have z : s.heap.size ≤ fa := z; have := hF.2.2; omega
  refine va_calli (va_runV S hM cw ⟨Fx_blind, va_recv hK hH.1 hC (wL_obj hb hc), fun U hU hW => ⟨rfl, ((Wd_pre (av := []) hK hN hH).2 U hU hW).2, ?_⟩⟩ rfl hn hsz rfl (lv_room hw) hdg hroom) hH.2.1 (fun q _ z => hH.2.2.2 q z) (fun q z => hH.2.2.2 q z) (fun r u t H1 locs1 ht hvm hp hB hz hk hS => ?_)
  · refine ⟨?_, ?_, ?_, fun z => hfa (hH.2.2.2 fa z)⟩
    · rw [hU]
      exact va_Z.moved hW.alike ((hF.1.kept kp).narrow (fun q z => hH.2.2.2 q z))
    · rw [hU]
      exact va_X.moved hW.alike (hF.2.1.kept (kp fa hF.2.2 hfa))
    · rw [hU]
      exact Nat.lt_of_lt_of_le hF.2.2 hS.1
  · obtain ⟨rfl, rfl⟩ := hp
    have hP := hB.1
    rw [ht] at hP
    exact kk H1 locs1 ⟨hP, hS, hH.2.2⟩
end WF
