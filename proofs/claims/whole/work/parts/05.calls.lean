/-! calls and ends over the uniform world -/
abbrev wU (y : MethodName) (cc : ByteArray) (n : Nat) (r : Option FieldType) : List Cond := .code y cc n r :: tT
theorem wU_in {y : MethodName} {cc : ByteArray} {n : Nat} {r : Option FieldType} : ∀ w ∈ tT, w ∈ wU y cc n r := fun _ h => List.mem_cons_of_mem _ h
theorem wU_good {Ts : List Cond} (hT : ∀ w ∈ tT, w ∈ Ts) {y : MethodName} {cc : ByteArray} {n : Nat} {r : Option FieldType} (hc : Cond.code y cc n r ∈ tT) : GoodIn Ts (wU y cc n r) := by
  intro w hw
  rcases List.mem_cons.mp hw with rfl | h
  · exact ⟨hT _ hc, good_of_word (tT_good hc)⟩
  · exact ⟨hT _ h, good_of_word (tT_good h)⟩
theorem gV {Ts : List Cond} (hT : ∀ w ∈ tT, w ∈ Ts) {own C : String} {idx : Nat} {y : MethodName} {cc : ByteArray} {n : Nat} {r : Option FieldType} (h1 : Cond.methodLink own idx y ∈ tT) (h2 : Cond.instanceMethod y ∈ tT) (h3 : Cond.selects C y y ∈ tT) (h4 : Cond.initialized C ∈ tT) (h5 : Cond.code y cc n r ∈ tT) : GoodIn Ts (wsV own idx C y (wU y cc n r)) := by
  intro w hw
  unfold wsV at hw
  rcases List.mem_append.mp hw with h | h
  · simp only [List.mem_cons, List.not_mem_nil, or_false] at h
    rcases h with rfl | rfl | rfl | rfl
    · exact ⟨hT _ h1, good_of_word (tT_good h1)⟩
    · exact ⟨hT _ h2, good_of_word (tT_good h2)⟩
    · exact ⟨hT _ h3, good_of_word (tT_good h3)⟩
    · exact ⟨hT _ h4, good_of_word (tT_good h4)⟩
  · exact wU_good hT h5 w h
theorem gS {Ts : List Cond} (hT : ∀ w ∈ tT, w ∈ Ts) {own : String} {idx : Nat} {y : MethodName} {cc : ByteArray} {n : Nat} {r : Option FieldType} (h1 : Cond.methodLink own idx y ∈ tT) (h2 : Cond.static y ∈ tT) (h4 : Cond.initialized y.cls ∈ tT) (h5 : Cond.code y cc n r ∈ tT) : GoodIn Ts (va_wsS own idx y (wU y cc n r)) := by
  intro w hw
  unfold va_wsS at hw
  rcases List.mem_append.mp hw with h | h
  · simp only [List.mem_cons, List.not_mem_nil, or_false] at h
    rcases h with rfl | rfl | rfl
    · exact ⟨hT _ h1, good_of_word (tT_good h1)⟩
    · exact ⟨hT _ h2, good_of_word (tT_good h2)⟩
    · exact ⟨hT _ h4, good_of_word (tT_good h4)⟩
  · exact wU_good hT h5 w h
theorem nestW_on : ∀ w ∈ nestW, w.onTables = true := by
  intro w hw
  simp only [nestW, List.mem_cons, List.not_mem_nil, or_false] at hw
  rcases hw with rfl | rfl | rfl | rfl | rfl | rfl | rfl | rfl | rfl | rfl | rfl | rfl | rfl | rfl | rfl | rfl | rfl | rfl | rfl | rfl | rfl | rfl | rfl | rfl | rfl | rfl | rfl <;> rfl
theorem Nst_warm {s U : State} (hW : s.WarmedH U.vm) (h : Nst s) : Nst U := by
  intro w hw
  have hs := h w hw
  simp only [nestW, List.mem_cons, List.not_mem_nil, or_false] at hw
  rcases hw with rfl | rfl | rfl | rfl | rfl | rfl | rfl | rfl | rfl | rfl | rfl | rfl | rfl | rfl | rfl | rfl | rfl | rfl | rfl | rfl | rfl | rfl | rfl | rfl | rfl | rfl | rfl <;> first | exact va_Nw.warmF hW hs | exact va_Nw.warmM hW hs
abbrev cQi (X : Cx) (r0 : Int32) (h0 : Hp) : Array Value → State → Outcome → State → Prop := va_Qi (fun (r : Int32) (u : Hp) => r = r0 ∧ u = h0) (fun u t => Wd X u t) (AD X)
abbrev cQl (X : Cx) (r0 : Int64) (h0 : Hp) : Array Value → State → Outcome → State → Prop := va_Ql (fun (r : Int64) (u : Hp) => r = r0 ∧ u = h0) (fun u t => Wd X u t) (AD X)
abbrev cQv (X : Cx) (h0 : Hp) : Array Value → State → Outcome → State → Prop := va_Qv (fun (u : Hp) => u = h0) (fun u t => Wd X u t) (AD X)
/-- a method's contract: from the table h with these arguments it answers r0 and leaves the table h0 -/
def Mi (l : Launch) (X : Cx) (y : MethodName) (cc : ByteArray) (n : Nat) (r : Option FieldType) (fr lo : Nat) (h : Hp) (av : List Value) (r0 : Int32) (h0 : Hp) : Prop := Met l y (wU y cc n r) ({ frames := fr, cells := 0, slots := 0, locals := lo }) (va_Pc av (Wd X h)) (cQi X r0 h0) 0 0 (AD X)
def Ml (l : Launch) (X : Cx) (y : MethodName) (cc : ByteArray) (n : Nat) (r : Option FieldType) (fr lo : Nat) (h : Hp) (av : List Value) (r0 : Int64) (h0 : Hp) : Prop := Met l y (wU y cc n r) ({ frames := fr, cells := 0, slots := 0, locals := lo }) (va_Pc av (Wd X h)) (cQl X r0 h0) 0 0 (AD X)
def Mv (l : Launch) (X : Cx) (y : MethodName) (cc : ByteArray) (n : Nat) (r : Option FieldType) (fr lo : Nat) (h : Hp) (av : List Value) (h0 : Hp) : Prop := Met l y (wU y cc n r) ({ frames := fr, cells := 0, slots := 0, locals := lo }) (va_Pc av (Wd X h)) (cQv X h0) 0 0 (AD X)
theorem Wd_blind {X : Cx} {h : Hp} {av : List Value} : FrameBlind (va_Pc av (Wd X h)) := fun a U g mk q => ⟨q.1, q.2.1, va_K.moved (u := U) (U := U.calling g mk a) (Vm.Alike.refl U.vm) q.2.2.1, fun w hw => va_Nw.same (u := U) (nestW_on w hw) (show U.vm = (U.calling g mk a).vm from rfl) (q.2.2.2 w hw)⟩
theorem Wd_pre {X : Cx} {A : Nat → Prop} {h : Hp} {s : State} {H : Heap} {locs : List Loc} {av : List Value} (hK : va_K (wD X) classes (tyS X) s) (hN : Nst s) (hH : HS X A h s H locs) : PreS s H (va_Pc av (Wd X h)) av := ⟨Wd_blind, fun U hU hW => ⟨rfl, by rw [hU]; exact hH.1, va_K.moved hW.alike hK, Nst_warm hW hN⟩⟩
theorem Wd_preV {X : Cx} {A : Nat → Prop} {h : Hp} {s : State} {H : Heap} {locs : List Loc} {b ci : Nat} {C : String} {T : u_T} {N : Nat} {As : List Value} (hK : va_K (wD X) classes (tyS X) s) (hN : Nst s) (hH : HS X A h s H locs) (hb : tY b = ci) (hc : ci < 100) (hC : classes[ci]? = some (C, T, N)) : PreV s H C (X.2.2.2 b) (va_Pc (.ref (X.2.2.2 b) :: As) (Wd X h)) As := ⟨Wd_blind, va_recv hK hH.1 hC (wL_obj hb hc), (Wd_pre hK hN hH).2⟩
section WC
variable {p : Program} {l : Launch} {e : Env} {R : Room} {s : State} {m : MethodId} {args : Array Value} {below : List Frame} {meth : Method} {c : Code} {H : Heap} {locs : List Loc} {cells slots : Nat} {Q : State → Prop} {cc : ByteArray} {pc nL : Nat} {ls : Array Slot} {rest st0 : List Value} {X : Cx} {A : Nat → Prop} {h : Hp} {Ts : List Cond} {own : String}
variable {y : MethodName} {bytes : ByteArray} {maxL index n fr lo : Nat} {ret : Option FieldType} {As : List Value}
theorem wk_callSi (S : CallFix p m c cc nL s args Ts own) (hK : va_K (wD X) classes (tyS X) s) (hN : Nst s) (hH : HS X A h s H locs) {r0 : Int32} {h0 : Hp} (hM : Mi l X y bytes maxL ret fr lo h As r0 h0) (cw : CallB R s args own index y bytes maxL ret (wU y bytes maxL ret) ({ frames := fr, cells := 0, slots := 0, locals := lo }) 0 0 n ∧ (Cond.static y).before args s = true) (hsz : ls.size = nL) (hn : As.length = n) (hst : st0 = As.reverse ++ rest) (hw : (rest.map fun v => v.category).sum ≤ 8) (hdg : decode cc pc = .ok (.invokestatic index, 3)) (hroom : cells ≤ R.cells ∧ slots ≤ R.slots)
    (kk : ∀ (H1 : Heap) (locs1 : List Loc), HS X A h0 s H1 locs1 → W p l e R s m args below meth c H1 locs1 cells slots Q (F0 m (pc + 3) ls (.int r0 :: rest))) : W p l e R s m args below meth c H locs cells slots Q (F0 m pc ls st0) := by
  subst hst
  refine va_calli (va_runS S hM cw (Wd_pre hK hN hH) rfl hn hsz rfl (lv_room hw) hdg hroom) hH.2.1 (fun q _ z => hH.2.2.2 q z) (fun q z => hH.2.2.2 q z) (fun r u t H1 locs1 ht hvm hp hB hz hk hS => ?_)
  obtain ⟨rfl, rfl⟩ := hp
  have hP := hB.1
  rw [ht] at hP
  exact kk H1 locs1 ⟨hP, hS, hH.2.2⟩
theorem wk_callSl (S : CallFix p m c cc nL s args Ts own) (hK : va_K (wD X) classes (tyS X) s) (hN : Nst s) (hH : HS X A h s H locs) {r0 : Int64} {h0 : Hp} (hM : Ml l X y bytes maxL ret fr lo h As r0 h0) (cw : CallB R s args own index y bytes maxL ret (wU y bytes maxL ret) ({ frames := fr, cells := 0, slots := 0, locals := lo }) 0 0 n ∧ (Cond.static y).before args s = true) (hsz : ls.size = nL) (hn : As.length = n) (hst : st0 = As.reverse ++ rest) (hw : (rest.map fun v => v.category).sum ≤ 8) (hdg : decode cc pc = .ok (.invokestatic index, 3)) (hroom : cells ≤ R.cells ∧ slots ≤ R.slots)
    (kk : ∀ (H1 : Heap) (locs1 : List Loc), HS X A h0 s H1 locs1 → W p l e R s m args below meth c H1 locs1 cells slots Q (F0 m (pc + 3) ls (.long r0 :: rest))) : W p l e R s m args below meth c H locs cells slots Q (F0 m pc ls st0) := by
  subst hst
  refine va_calll (va_runS S hM cw (Wd_pre hK hN hH) rfl hn hsz rfl (lv_room hw) hdg hroom) hH.2.1 (fun q _ z => hH.2.2.2 q z) (fun q z => hH.2.2.2 q z) (fun r u t H1 locs1 ht hvm hp hB hz hk hS => ?_)
  obtain ⟨rfl, rfl⟩ := hp
  have hP := hB.1
  rw [ht] at hP
  exact kk H1 locs1 ⟨hP, hS, hH.2.2⟩
theorem wk_callSv (S : CallFix p m c cc nL s args Ts own) (hK : va_K (wD X) classes (tyS X) s) (hN : Nst s) (hH : HS X A h s H locs) {h0 : Hp} (hM : Mv l X y bytes maxL ret fr lo h As h0) (cw : CallB R s args own index y bytes maxL ret (wU y bytes maxL ret) ({ frames := fr, cells := 0, slots := 0, locals := lo }) 0 0 n ∧ (Cond.static y).before args s = true) (hsz : ls.size = nL) (hn : As.length = n) (hst : st0 = As.reverse ++ rest) (hw : (rest.map fun v => v.category).sum ≤ 8) (hdg : decode cc pc = .ok (.invokestatic index, 3)) (hroom : cells ≤ R.cells ∧ slots ≤ R.slots)
    (kk : ∀ (H1 : Heap) (locs1 : List Loc), HS X A h0 s H1 locs1 → W p l e R s m args below meth c H1 locs1 cells slots Q (F0 m (pc + 3) ls rest)) : W p l e R s m args below meth c H locs cells slots Q (F0 m pc ls st0) := by
  subst hst
  refine va_callv (va_runS S hM cw (Wd_pre hK hN hH) rfl hn hsz rfl (lv_room hw) hdg hroom) hH.2.1 (fun q _ z => hH.2.2.2 q z) (fun q z => hH.2.2.2 q z) (fun u t H1 locs1 ht hvm hp hB hz hk hS => ?_)
  obtain rfl := hp
  have hP := hB.1
  rw [ht] at hP
  exact kk H1 locs1 ⟨hP, hS, hH.2.2⟩
theorem wk_callSNi (S : CallFix p m c cc nL s args Ts own) (hK : va_K (wD X) classes (tyS X) s) (hN : Nst s) (hH : HS X A h s H locs) {r0 : Int32} {h0 : Hp} {host : String} (hM : Mi l X y bytes maxL ret fr lo h As r0 h0) (cw : va_CN R s args own index y host bytes maxL ret (wU y bytes maxL ret) ({ frames := fr, cells := 0, slots := 0, locals := lo }) 0 0 n ∧ (Cond.static y).before args s = true ∧ True) (hsz : ls.size = nL) (hn : As.length = n) (hst : st0 = As.reverse ++ rest) (hw : (rest.map fun v => v.category).sum ≤ 8) (hdg : decode cc pc = .ok (.invokestatic index, 3)) (hroom : cells ≤ R.cells ∧ slots ≤ R.slots)
    (kk : ∀ (H1 : Heap) (locs1 : List Loc), HS X A h0 s H1 locs1 → W p l e R s m args below meth c H1 locs1 cells slots Q (F0 m (pc + 3) ls (.int r0 :: rest))) : W p l e R s m args below meth c H locs cells slots Q (F0 m pc ls st0) := by
  subst hst
  refine va_calli (va_runSN S hM cw (Wd_pre hK hN hH) rfl hn hsz rfl (lv_room hw) hdg hroom) hH.2.1 (fun q _ z => hH.2.2.2 q z) (fun q z => hH.2.2.2 q z) (fun r u t H1 locs1 ht hvm hp hB hz hk hS => ?_)
  obtain ⟨rfl, rfl⟩ := hp
  have hP := hB.1
  rw [ht] at hP
  exact kk H1 locs1 ⟨hP, hS, hH.2.2⟩
theorem wk_callVi (S : CallFix p m c cc nL s args Ts own) (hK : va_K (wD X) classes (tyS X) s) (hN : Nst s) (hH : HS X A h s H locs) {r0 : Int32} {h0 : Hp} {b ci : Nat} {C : String} {T : u_T} {N : Nat} (hb : tY b = ci) (hc : ci < 100) (hC : classes[ci]? = some (C, T, N)) (hM : Mi l X y bytes maxL ret fr lo h (.ref (X.2.2.2 b) :: As) r0 h0) (cw : CallW R s args own C index y bytes maxL ret (wU y bytes maxL ret) ({ frames := fr, cells := 0, slots := 0, locals := lo }) 0 0 n) (hsz : ls.size = nL) (hn : As.length = n) (hst : st0 = As.reverse ++ .ref (X.2.2.2 b) :: rest) (hw : (rest.map fun v => v.category).sum ≤ 8) (hdg : decode cc pc = .ok (.invokevirtual index, 3)) (hroom : cells ≤ R.cells ∧ slots ≤ R.slots)
    (kk : ∀ (H1 : Heap) (locs1 : List Loc), HS X A h0 s H1 locs1 → W p l e R s m args below meth c H1 locs1 cells slots Q (F0 m (pc + 3) ls (.int r0 :: rest))) : W p l e R s m args below meth c H locs cells slots Q (F0 m pc ls st0) := by
  subst hst
  refine va_calli (va_runV S hM cw (Wd_preV hK hN hH hb hc hC) rfl hn hsz rfl (lv_room hw) hdg hroom) hH.2.1 (fun q _ z => hH.2.2.2 q z) (fun q z => hH.2.2.2 q z) (fun r u t H1 locs1 ht hvm hp hB hz hk hS => ?_)
  obtain ⟨rfl, rfl⟩ := hp
  have hP := hB.1
  rw [ht] at hP
  exact kk H1 locs1 ⟨hP, hS, hH.2.2⟩
theorem wk_callVl (S : CallFix p m c cc nL s args Ts own) (hK : va_K (wD X) classes (tyS X) s) (hN : Nst s) (hH : HS X A h s H locs) {r0 : Int64} {h0 : Hp} {b ci : Nat} {C : String} {T : u_T} {N : Nat} (hb : tY b = ci) (hc : ci < 100) (hC : classes[ci]? = some (C, T, N)) (hM : Ml l X y bytes maxL ret fr lo h (.ref (X.2.2.2 b) :: As) r0 h0) (cw : CallW R s args own C index y bytes maxL ret (wU y bytes maxL ret) ({ frames := fr, cells := 0, slots := 0, locals := lo }) 0 0 n) (hsz : ls.size = nL) (hn : As.length = n) (hst : st0 = As.reverse ++ .ref (X.2.2.2 b) :: rest) (hw : (rest.map fun v => v.category).sum ≤ 8) (hdg : decode cc pc = .ok (.invokevirtual index, 3)) (hroom : cells ≤ R.cells ∧ slots ≤ R.slots)
    (kk : ∀ (H1 : Heap) (locs1 : List Loc), HS X A h0 s H1 locs1 → W p l e R s m args below meth c H1 locs1 cells slots Q (F0 m (pc + 3) ls (.long r0 :: rest))) : W p l e R s m args below meth c H locs cells slots Q (F0 m pc ls st0) := by
  subst hst
  refine va_calll (va_runV S hM cw (Wd_preV hK hN hH hb hc hC) rfl hn hsz rfl (lv_room hw) hdg hroom) hH.2.1 (fun q _ z => hH.2.2.2 q z) (fun q z => hH.2.2.2 q z) (fun r u t H1 locs1 ht hvm hp hB hz hk hS => ?_)
  obtain ⟨rfl, rfl⟩ := hp
  have hP := hB.1
  rw [ht] at hP
  exact kk H1 locs1 ⟨hP, hS, hH.2.2⟩
theorem wk_callVv (S : CallFix p m c cc nL s args Ts own) (hK : va_K (wD X) classes (tyS X) s) (hN : Nst s) (hH : HS X A h s H locs) {h0 : Hp} {b ci : Nat} {C : String} {T : u_T} {N : Nat} (hb : tY b = ci) (hc : ci < 100) (hC : classes[ci]? = some (C, T, N)) (hM : Mv l X y bytes maxL ret fr lo h (.ref (X.2.2.2 b) :: As) h0) (cw : CallW R s args own C index y bytes maxL ret (wU y bytes maxL ret) ({ frames := fr, cells := 0, slots := 0, locals := lo }) 0 0 n) (hsz : ls.size = nL) (hn : As.length = n) (hst : st0 = As.reverse ++ .ref (X.2.2.2 b) :: rest) (hw : (rest.map fun v => v.category).sum ≤ 8) (hdg : decode cc pc = .ok (.invokevirtual index, 3)) (hroom : cells ≤ R.cells ∧ slots ≤ R.slots)
    (kk : ∀ (H1 : Heap) (locs1 : List Loc), HS X A h0 s H1 locs1 → W p l e R s m args below meth c H1 locs1 cells slots Q (F0 m (pc + 3) ls rest)) : W p l e R s m args below meth c H locs cells slots Q (F0 m pc ls st0) := by
  subst hst
  refine va_callv (va_runV S hM cw (Wd_preV hK hN hH hb hc hC) rfl hn hsz rfl (lv_room hw) hdg hroom) hH.2.1 (fun q _ z => hH.2.2.2 q z) (fun q z => hH.2.2.2 q z) (fun u t H1 locs1 ht hvm hp hB hz hk hS => ?_)
  obtain rfl := hp
  have hP := hB.1
  rw [ht] at hP
  exact kk H1 locs1 ⟨hP, hS, hH.2.2⟩
theorem wk_iret (S : CallFix p m c cc nL s args Ts own) (hr : meth.sig.returnType = some .int) (hlk : meth.locks = false) (hK : va_K (wD X) classes (tyS X) s) (hN : Nst s) (hH : HS X (AD X) h s H locs) {v r0 : Int32} {h0 : Hp} (hf : some (v, h) = some (r0, h0)) (hdg : decode cc pc = .ok (.ireturn, 1)) : W p l e R s m args below meth c H locs 0 0 (MQ below (cQi X r0 h0) args s 0 0 (AD X)) (F0 m pc ls [.int v]) := by
  cases hf
  exact W.iret S.1 S.2.1 hr (fun t ht hW => ⟨⟨v, h, rfl, ⟨rfl, rfl⟩, by rw [ht]; exact hH.1, va_K.moved hW.alike hK, Nst_warm hW hN⟩, hH.2.1.F ht⟩) hH.2.1.2.2 hdg hlk
theorem wk_zret (S : CallFix p m c cc nL s args Ts own) (hr : meth.sig.returnType = some .boolean) (hlk : meth.locks = false) (hK : va_K (wD X) classes (tyS X) s) (hN : Nst s) (hH : HS X (AD X) h s H locs) {v r0 : Int32} {h0 : Hp} (hz : narrow .boolean (.int v) = .int v) (hf : some (v, h) = some (r0, h0)) (hdg : decode cc pc = .ok (.ireturn, 1)) : W p l e R s m args below meth c H locs 0 0 (MQ below (cQi X r0 h0) args s 0 0 (AD X)) (F0 m pc ls [.int v]) := by
  cases hf
  exact W.zret S.1 S.2.1 hr hz (fun t ht hW => ⟨⟨v, h, rfl, ⟨rfl, rfl⟩, by rw [ht]; exact hH.1, va_K.moved hW.alike hK, Nst_warm hW hN⟩, hH.2.1.F ht⟩) hH.2.1.2.2 hdg hlk
theorem wk_lret (S : CallFix p m c cc nL s args Ts own) (hr : meth.sig.returnType = some .long) (hlk : meth.locks = false) (hK : va_K (wD X) classes (tyS X) s) (hN : Nst s) (hH : HS X (AD X) h s H locs) {v r0 : Int64} {h0 : Hp} (hf : some (v, h) = some (r0, h0)) (hdg : decode cc pc = .ok (.lreturn, 1)) : W p l e R s m args below meth c H locs 0 0 (MQ below (cQl X r0 h0) args s 0 0 (AD X)) (F0 m pc ls [.long v]) := by
  cases hf
  exact W.lret S.1 S.2.1 hr (fun t ht hW => ⟨⟨v, h, rfl, ⟨rfl, rfl⟩, by rw [ht]; exact hH.1, va_K.moved hW.alike hK, Nst_warm hW hN⟩, hH.2.1.F ht⟩) hH.2.1.2.2 hdg hlk
theorem wk_vret (S : CallFix p m c cc nL s args Ts own) (hr : meth.sig.returnType = none) (hlk : meth.locks = false) (hK : va_K (wD X) classes (tyS X) s) (hN : Nst s) (hH : HS X (AD X) h s H locs) {h0 : Hp} (hf : some h = some h0) (hdg : decode cc pc = .ok (.return_, 1)) : W p l e R s m args below meth c H locs 0 0 (MQ below (cQv X h0) args s 0 0 (AD X)) (F0 m pc ls []) := by
  cases hf
  exact W.vret S.1 S.2.1 hr (fun t ht hW => ⟨⟨h, rfl, rfl, by rw [ht]; exact hH.1, va_K.moved hW.alike hK, Nst_warm hW hN⟩, hH.2.1.F ht⟩) hH.2.1.2.2 hdg hlk
end WC
/-- a place of a method's code, reached with these locals, this stack and this table: the method comes to its end -/
def BK (p : Program) (l : Launch) (e : Env) (R : Room) (s : State) (m : MethodId) (args : Array Value) (below : List Frame) (meth : Method) (c : Code) (Q : State → Prop) (X : Cx) (nL pc : Nat) (lv : List (Nat × Value)) (st : List Value) (h : Hp) : Prop :=
  ∀ (H : Heap) (locs : List Loc) (ls : Array Slot), lv_has ls nL lv → HS X (AD X) h s H locs → W p l e R s m args below meth c H locs 0 0 Q (F0 m pc ls st)
/-- a method's body from its entry -/
def BD (l : Launch) (X : Cx) (cc : ByteArray) (n : Nat) (r : Option FieldType) (fr lo : Nat) (h : Hp) (av : List Value) (own : String) (y : MethodName) (Qc : Array Value → State → Outcome → State → Prop) : Prop :=
  ∀ (p : Program) (e : Env) (s : State) (m : MethodId) (args : Array Value) (below : List Frame) (meth : Method) (c : Code), CallFix p m c cc n s args (wU y cc n r) own → meth.sig.returnType = r → meth.locks = false → va_K (wD X) classes (tyS X) s → Nst s → BK p l e ({ frames := fr, cells := 0, slots := 0, locals := lo }) s m args below meth c (MQ below Qc args s 0 0 (AD X)) X n 0 (lv_args 0 av) [] h
theorem BD_of {l : Launch} {X : Cx} (hI : Inj X) {y : MethodName} {cc : ByteArray} {n : Nat} {r : Option FieldType} {fr lo : Nat} {h : Hp} {av : List Value} {own : String} {Qc : Array Value → State → Outcome → State → Prop} (ho : y.cls = own) (hy : plainName y.cls = true) (hlen : (lg_sl av).length ≤ n) (body : BD l X cc n r fr lo h av own y Qc) : Met l y (wU y cc n r) ({ frames := fr, cells := 0, slots := 0, locals := lo }) (va_Pc av (Wd X h)) Qc 0 0 (AD X) := by
  refine Met.ofW (cc := cc) (maxL := n) (ret := r) hy rfl ?_
  intro p e s m args below meth c s₁ B hml hv
  obtain ⟨rfl, hP, hK, hN⟩ := hv
  have hown : s.vm.findClass own = some m.cls := by rw [← ho]; exact findClass_of_methodNamed B.named
  have hl := lv_entry av (n := n) hlen
  rw [lg_entry_eq]
  exact body p e s m _ below meth c ⟨B.exec, B.bytes, hml, hown, atoms_spec (ws := wU y cc n r) B.pre⟩ B.returns B.notSynchronized hK hN s.heap [] _ hl ⟨hP, va_S.rf, hI, fun _ z => z⟩
def bnd {α β : Type} (a : Option (α × Hp)) (f : α → Hp → Option β) : Option β := match a with
  | none => none
  | some q => f q.1 q.2
theorem bnd_ok {α β : Type} {a : Option (α × Hp)} {f : α → Hp → Option β} {r : β} (h : bnd a f = some r) : ∃ v h1, a = some (v, h1) ∧ f v h1 = some r := by
  cases a with
  | none => cases h
  | some q => exact ⟨q.1, q.2, rfl, h⟩
theorem ite_t {c : Prop} {_ : Decidable c} {α : Type} {a b r : α} (hc : c) (h : (if c then a else b) = r) : a = r := by rw [if_pos hc] at h; exact h
theorem ite_f {c : Prop} {_ : Decidable c} {α : Type} {a b r : α} (hc : ¬ c) (h : (if c then a else b) = r) : b = r := by rw [if_neg hc] at h; exact h
