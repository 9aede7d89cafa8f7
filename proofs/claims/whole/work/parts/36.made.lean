/-! what makes objects -/
theorem m_110 : (.arrayClass .int : Cond) ∈ tT := tT_in (i := 110) (by decide +kernel) (by decide +kernel)
theorem m_192 : (.arrayClass .boolean : Cond) ∈ tT := tT_in (i := 192) (by decide +kernel) (by decide +kernel)
theorem ty_i {D : va_G} {cl : List vw_C} {X : Cx} {cA : ClassId} {s : State} (h : va_K D cl (tyS X ++ [(cA, .int)]) s) : cA = X.2.2.1 0 := by
  have h1 : s.vm.findClass ("[" ++ FieldType.int.toString) = some (X.2.2.1 0) := (h.2 0 (X.2.2.1 0, .int) rfl).2
  have h2 : s.vm.findClass ("[" ++ FieldType.int.toString) = some cA := (h.2 3 (cA, .int) rfl).2
  exact (Option.some.inj (h1.symm.trans h2)).symm
theorem ty_z {D : va_G} {cl : List vw_C} {X : Cx} {cA : ClassId} {s : State} (h : va_K D cl (tyS X ++ [(cA, .boolean)]) s) : cA = X.2.2.1 1 := by
  have h1 : s.vm.findClass ("[" ++ FieldType.boolean.toString) = some (X.2.2.1 1) := (h.2 1 (X.2.2.1 1, .boolean) rfl).2
  have h2 : s.vm.findClass ("[" ++ FieldType.boolean.toString) = some cA := (h.2 3 (cA, .boolean) rfl).2
  exact (Option.some.inj (h1.symm.trans h2)).symm
theorem ty_q {D : va_G} {cl : List vw_C} {X : Cx} {cA : ClassId} {s : State} (h : va_K D cl (tyS X ++ [(cA, .object "WordKin$Ways")]) s) : cA = X.2.2.1 2 := by
  obtain ⟨-, kA, comp, -, -, -, h1⟩ := h.2 2 (X.2.2.1 2, .object "WordKin$Ways") rfl
  obtain ⟨-, kA2, comp2, -, -, -, h2⟩ := h.2 3 (cA, .object "WordKin$Ways") rfl
  exact (Option.some.inj (h1.symm.trans h2)).symm
def iPre (X : Cx) (ws : va_W) (sz : Nat) (U : State) : Prop := U.heap.size = sz ∧ va_P (wD X) classes ws U.heap ∧ va_K (wD X) classes (tyS X) U ∧ va_D (fun _ => True) ws ∧ Nst U ∧ va_AO "WordKin$Ways" U
theorem iPre_blind {X : Cx} {ws : va_W} {sz : Nat} {av : List Value} : FrameBlind (va_Pc av (iPre X ws sz)) := fun a U g mk q => ⟨q.1, q.2.1, q.2.2.1, va_K.moved (u := U) (U := U.calling g mk a) (Vm.Alike.refl U.vm) q.2.2.2.1, q.2.2.2.2.1, fun w hw => va_Nw.same (u := U) (nestW_on w hw) (show U.vm = (U.calling g mk a).vm from rfl) (q.2.2.2.2.2.1 w hw), va_AO.moved (u := U) (U := U.calling g mk a) (Vm.Alike.refl U.vm) q.2.2.2.2.2.2⟩
def Mn (l : Launch) (X : Cx) (y : MethodName) (cc : ByteArray) (n fr lo k z : Nat) (av : List Value) (ws : va_W) (sz : Nat) {S : Type} (post : S → Prop) (out : S → va_W) : Prop :=
  Met l y (wU y cc n none) ({ frames := fr, cells := k, slots := z, locals := lo }) (va_Pc av (iPre X ws sz)) (va_Qv post (fun u t => va_P (wD X) classes (out u) t.heap ∧ va_D (va_A ws sz) (out u)) (va_A ws sz)) k z (va_A ws sz)
section WI
variable {p : Program} {l : Launch} {e : Env} {R : Room} {s : State} {m : MethodId} {args : Array Value} {below : List Frame} {meth : Method} {c : Code} {H H0 : Heap} {locs : List Loc} {cells slots : Nat} {Q : State → Prop} {cc : ByteArray} {pc nL : Nat} {ls : Array Slot} {rest st0 : List Value} {X : Cx} {A : Nat → Prop} {Ts : List Cond} {own : String} {ws : va_W}
theorem wi_int (hx : p.tables.exec = Jvm.exec) (hb : c.code = cc) (harr : (Cond.arrayClass .int).before args s = true) (hK : va_K (wD X) classes (tyS X) s) (hP : va_P (wD X) classes ws H) (hD : va_D A ws) (hS : va_S A H0 H locs) (hA : ∀ q, H0.size ≤ q → A q) {n : Int32} (N' : Nat) (hn : ¬ n < 0) (hN : n.toNatClampNeg = N') (hbytes : N' * 4 ≤ 536870912) (hcells : cells + 1 ≤ R.cells) (hslots : slots + N' ≤ R.slots) (hdg : decode cc pc = .ok (.newarray .int, 2))
    (kk : ∀ (q : Nat) (H1 : Heap), va_P (wD X) classes (ws ++ [(q, .inl (X.2.2.1 0, N', .inl (fun _ => 0)))]) H1 → va_D A (ws ++ [(q, .inl (X.2.2.1 0, N', .inl (fun _ => 0)))]) → va_S A H0 H1 locs → W p l e R s m args below meth c H1 locs (cells + 1) (slots + N') Q (F0 m (pc + 2) ls (.ref q :: rest))) : W p l e R s m args below meth c H locs cells slots Q (F0 m pc ls (.int n :: rest)) := by
  refine va_newa (atype := .int) (ty := .int) (a0 := (N', .inl (fun _ => 0))) hx hb harr rfl hK hP hD hS hA (fun _ => rfl) hn hN hbytes hcells hslots hdg (fun q cA H1 k1 p1 d1 s1 => ?_)
  have := ty_i k1
  subst this
  exact kk q H1 p1 d1 s1
theorem wi_bool (hx : p.tables.exec = Jvm.exec) (hb : c.code = cc) (harr : (Cond.arrayClass .boolean).before args s = true) (hK : va_K (wD X) classes (tyS X) s) (hP : va_P (wD X) classes ws H) (hD : va_D A ws) (hS : va_S A H0 H locs) (hA : ∀ q, H0.size ≤ q → A q) {n : Int32} (N' : Nat) (hn : ¬ n < 0) (hN : n.toNatClampNeg = N') (hbytes : N' * 1 ≤ 536870912) (hcells : cells + 1 ≤ R.cells) (hslots : slots + N' ≤ R.slots) (hdg : decode cc pc = .ok (.newarray .boolean, 2))
    (kk : ∀ (q : Nat) (H1 : Heap), va_P (wD X) classes (ws ++ [(q, .inl (X.2.2.1 1, N', .inl (fun _ => 0)))]) H1 → va_D A (ws ++ [(q, .inl (X.2.2.1 1, N', .inl (fun _ => 0)))]) → va_S A H0 H1 locs → W p l e R s m args below meth c H1 locs (cells + 1) (slots + N') Q (F0 m (pc + 2) ls (.ref q :: rest))) : W p l e R s m args below meth c H locs cells slots Q (F0 m pc ls (.int n :: rest)) := by
  refine va_newa (atype := .boolean) (ty := .boolean) (a0 := (N', .inl (fun _ => 0))) hx hb harr rfl hK hP hD hS hA (fun _ => rfl) hn hN hbytes hcells hslots hdg (fun q cA H1 k1 p1 d1 s1 => ?_)
  have := ty_z k1
  subst this
  exact kk q H1 p1 d1 s1
theorem wi_ref (hx : p.tables.exec = Jvm.exec) (hb : c.code = cc) {index : Nat} (hown : s.vm.findClass own = some m.cls) (hclink : (Cond.classLink own index "WordKin$Ways").before args s = true) (hover : va_AO "WordKin$Ways" s) (hK : va_K (wD X) classes (tyS X) s) (hP : va_P (wD X) classes ws H) (hD : va_D A ws) (hS : va_S A H0 H locs) (hA : ∀ q, H0.size ≤ q → A q) {n : Int32} (N' : Nat) (hn : ¬ n < 0) (hN : n.toNatClampNeg = N') (hbytes : N' * 4 ≤ 536870912) (hcells : cells + 1 ≤ R.cells) (hslots : slots + N' ≤ R.slots) (hdg : decode cc pc = .ok (.anewarray index, 3))
    (kk : ∀ (q : Nat) (H1 : Heap), va_P (wD X) classes (ws ++ [(q, .inl (X.2.2.1 2, N', .inr (.inr (.inr (.inr (fun _ => none))))))]) H1 → va_D A (ws ++ [(q, .inl (X.2.2.1 2, N', .inr (.inr (.inr (.inr (fun _ => none))))))]) → va_S A H0 H1 locs → W p l e R s m args below meth c H1 locs (cells + 1) (slots + N') Q (F0 m (pc + 3) ls (.ref q :: rest))) : W p l e R s m args below meth c H locs cells slots Q (F0 m pc ls (.int n :: rest)) := by
  refine va_newq hx hb hown hclink hover hK hP hD hS hA hn hN hbytes hcells hslots hdg (fun q cA H1 k1 p1 d1 s1 => ?_)
  have := ty_q k1
  subst this
  exact kk q H1 p1 d1 s1
variable {y : MethodName} {bytes : ByteArray} {maxL index n fr lo k z : Nat} {As : List Value} {b : Nat} {wc wr : va_W}
theorem wi_pre (hK : va_K (wD X) classes (tyS X) s) (hN : Nst s) (hO : va_AO "WordKin$Ways" s) (hP : va_P (wD X) classes wc H) (hD : va_D A wc) {av : List Value} : PreS s H (va_Pc av (iPre X wc H.size)) av := ⟨iPre_blind, fun U hU hW => ⟨rfl, by rw [hU], by rw [hU]; exact hP, va_K.moved hW.alike hK, hD.weaken (fun _ _ _ _ => trivial), Nst_warm hW hN, va_AO.moved hW.alike hO⟩⟩
theorem wi_callI (S : CallFix p m c cc nL s args Ts own) (hK : va_K (wD X) classes (tyS X) s) (hN : Nst s) (hO : va_AO "WordKin$Ways" s) (hP : va_P (wD X) classes ws H) (hD : va_D A ws) (hS : va_S A H0 H locs) (hA : ∀ q, H0.size ≤ q → A q) (isC isR : List Nat) (hPc : isC.filterMap (fun i => ws[i]?) = wc) (hC : isC.map (fun i => ws[i]?) = wc.map some) (hndC : va_nd isC = true) (hR : isR.map (fun i => ws[i]?) = wr.map some) (hnd : va_nd isR = true) (hdis : ∀ i ∈ isR, i ∉ isC)
    {T : Type} {post : T → Prop} {out : T → va_W} (hM : Mn l X y bytes maxL fr lo k z (.ref b :: As) wc H.size post out) (cw : CallB R s args own index y bytes maxL none (wU y bytes maxL none) ({ frames := fr, cells := k, slots := z, locals := lo }) k z n ∧ y.name = "<init>" ∧ (Cond.instanceMethod y).before args s = true) (hsz : ls.size = nL) (hn : As.length = n) (hst : st0 = As.reverse ++ .ref b :: rest) (hw : (rest.map fun v => v.category).sum ≤ 8) (hdg : decode cc pc = .ok (.invokespecial index, 3)) (hroom : cells + k ≤ R.cells ∧ slots + z ≤ R.slots)
    (kk : ∀ (u : T) (H1 : Heap) (locs1 : List Loc), post u → va_P (wD X) classes (wr ++ out u) H1 → va_D A (wr ++ out u) → va_S A H0 H1 locs1 → W p l e R s m args below meth c H1 locs1 (cells + k) (slots + z) Q (F0 m (pc + 3) ls rest)) : W p l e R s m args below meth c H locs cells slots Q (F0 m pc ls st0) := by
  subst hst
  have hFc := va_free (wc := wc) hD hS hA isC hC
  refine va_callv (va_runI S hM cw (wi_pre hK hN hO (hP.sub isC hPc) (hD.sub isC hndC hC)) rfl hn hsz rfl (lv_room hw) hdg hroom) hS (fun q _ h => hFc q h) hFc (fun u t H1 locs1 ht hvm hp hB hz hk hS => ?_)
  obtain ⟨hP1, hD1⟩ := hB
  rw [ht] at hP1
  obtain ⟨p2, d2⟩ := va_join (wr := wr) (w1 := out u) hP hD isC isR hC hR hnd hdis hk hFc hP1 hD1
  exact kk u H1 locs1 hp p2 d2 hS
theorem wi_callIN {host : String} (S : CallFix p m c cc nL s args Ts own) (hK : va_K (wD X) classes (tyS X) s) (hN : Nst s) (hO : va_AO "WordKin$Ways" s) (hP : va_P (wD X) classes ws H) (hD : va_D A ws) (hS : va_S A H0 H locs) (hA : ∀ q, H0.size ≤ q → A q) (isC isR : List Nat) (hPc : isC.filterMap (fun i => ws[i]?) = wc) (hC : isC.map (fun i => ws[i]?) = wc.map some) (hndC : va_nd isC = true) (hR : isR.map (fun i => ws[i]?) = wr.map some) (hnd : va_nd isR = true) (hdis : ∀ i ∈ isR, i ∉ isC)
    {T : Type} {post : T → Prop} {out : T → va_W} (hM : Mn l X y bytes maxL fr lo k z (.ref b :: As) wc H.size post out) (cw : va_CN R s args own index y host bytes maxL none (wU y bytes maxL none) ({ frames := fr, cells := k, slots := z, locals := lo }) k z n ∧ y.name = "<init>" ∧ (Cond.instanceMethod y).before args s = true) (hsz : ls.size = nL) (hn : As.length = n) (hst : st0 = As.reverse ++ .ref b :: rest) (hw : (rest.map fun v => v.category).sum ≤ 8) (hdg : decode cc pc = .ok (.invokespecial index, 3)) (hroom : cells + k ≤ R.cells ∧ slots + z ≤ R.slots)
    (kk : ∀ (u : T) (H1 : Heap) (locs1 : List Loc), post u → va_P (wD X) classes (wr ++ out u) H1 → va_D A (wr ++ out u) → va_S A H0 H1 locs1 → W p l e R s m args below meth c H1 locs1 (cells + k) (slots + z) Q (F0 m (pc + 3) ls rest)) : W p l e R s m args below meth c H locs cells slots Q (F0 m pc ls st0) := by
  subst hst
  have hFc := va_free (wc := wc) hD hS hA isC hC
  refine va_callv (va_runIN S hM cw (wi_pre hK hN hO (hP.sub isC hPc) (hD.sub isC hndC hC)) rfl hn hsz rfl (lv_room hw) hdg hroom) hS (fun q _ h => hFc q h) hFc (fun u t H1 locs1 ht hvm hp hB hz hk hS => ?_)
  obtain ⟨hP1, hD1⟩ := hB
  rw [ht] at hP1
  obtain ⟨p2, d2⟩ := va_join (wr := wr) (w1 := out u) hP hD isC isR hC hR hnd hdis hk hFc hP1 hD1
  exact kk u H1 locs1 hp p2 d2 hS
end WI
