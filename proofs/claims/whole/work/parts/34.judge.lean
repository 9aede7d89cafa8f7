/-! judge -/
theorem inI_n {b n : Nat} (hb : b < 100) : inI (nI b) 0 (n - 1) = decide (b < n) := by
  unfold inI
  rw [nI_toInt (by omega)]
  apply decide_eq_decide.mpr
  omega
theorem ac1_nat {C : Nat} {ln T : Nat → Nat} {S : Nat → Nat → Int32} (hl : ∀ j, j < C → ln j < 4) (w : Nat) : ∀ p, p ≤ C → ∃ m, m < 16 ∧ ac1 C ln T S w p = nI m
  | 0, _ => ⟨0, by decide, rfl⟩
  | p + 1, hp => by
    obtain ⟨m, hm, e⟩ := ac1_nat hl w p (by omega)
    rw [ac1, e]
    by_cases q : wlk ln S T 15 (p + 1) w = wlk ln S T 15 p w
    · rw [if_pos q]; exact ⟨m, hm, by rw [Int32.or_zero]⟩
    · rw [if_neg q]
      obtain ⟨h1, h2⟩ := or_ok m hm (ln p) (hl p (by omega))
      exact ⟨_, h2, h1⟩
theorem or16 : ∀ a, a < 16 → ∀ b, b < 16 → (nI a ||| nI b) = nI (a ||| b) ∧ a ||| b < 16 := by decide +kernel
theorem acA_nat {C E : Nat} {ln rt en T : Nat → Nat} {S : Nat → Nat → Int32} (hl : ∀ j, j < C → ln j < 4) : ∀ k, ∃ m, m < 16 ∧ acA C E ln rt en T S k = nI m
  | 0 => ⟨0, by decide, rfl⟩
  | k + 1 => by
    obtain ⟨m, hm, e⟩ := acA_nat (E := E) (rt := rt) (en := en) (T := T) (S := S) hl k
    obtain ⟨m2, hm2, e2⟩ := ac1_nat (T := T) (S := S) hl (jn (rt (k / E)) (en (k % E))) C (Nat.le_refl _)
    rw [acA, e, e2]
    obtain ⟨h1, h2⟩ := or16 m hm m2 hm2
    exact ⟨_, h2, h1⟩
theorem bit16 : ∀ m, m < 16 → ∀ c, c < 4 → (((nI m &&& ((1 : Int32) <<< (nI c &&& 31))) = 0) ↔ ¬ (((nI m >>> (nI c &&& 31)) &&& 1) = 1)) := by decide +kernel
theorem AG_mk2 {h q : Hp} {a r C : Nat} (hr : isR r) (hC : C ≤ 4) (h5 : q.1 41 13 = nI C) (hV : VL C (tr h a)) (hA : AG C (tr h a) (q.1 r)) : MK q r C (lnH h a) (SH h a) (TH h a) := by
  refine ⟨hr, hC, h5, fun j hj => ?_, fun c k hc hk => ?_, fun c hc => ?_⟩
  · obtain ⟨v, hv, e⟩ := hV.1 j hj
    have e : h.1 (a + 2) j = nI v := e
    have e2 : h.1 (a + 2) j = q.1 r j := hA.1 j hj
    unfold lnH
    rw [← e2, e, nI_clamp (by omega)]
    exact ⟨rfl, hv⟩
  · have e2 : h.1 (a + 1) (c * 4 + k) = q.1 r (4 + (c * 4 + k)) := hA.2.1 _ (by omega)
    unfold SH
    rw [e2, show 4 + 4 * c + k = 4 + (c * 4 + k) by omega]
  · obtain ⟨v, hv, e⟩ := hV.2 c hc
    have e : h.1 (a + 1) (c * 4 + 1) = nI v := e
    unfold SH TH
    rw [e, nI_clamp (by omega)]
    exact ⟨rfl, hv⟩
def JR (h q : Hp) (C R E : Nat) (rt en : Nat → Nat) : Prop := C ≤ 4 ∧ h.1 14 5 = nI C ∧ q.1 41 13 = nI C ∧ VL C (tr h 14) ∧ AG C (tr h 14) (q.1 44) ∧ SK h R E rt en ∧ NK q R E rt en
def Jo (h q : Hp) (C R E : Nat) (rt en : Nat → Nat) (x y : Option (Int32 × Hp)) : Prop := ∃ r h' q', x = some (r, h') ∧ y = some (r, q') ∧ Sc h h' ∧ Sc q q' ∧ JR h' q' C R E rt en
theorem Jo_ro {h q : Hp} {C R E : Nat} {rt en : Nat → Nat} (J : JR h q C R E rt en) (r : Int32) : Jo h q C R E rt en (some (r, h)) (some (r, q)) := ⟨r, h, q, rfl, rfl, Sc_rf h, Sc_rf q, J⟩
section JUDGE
variable {h q : Hp} {C R E : Nat} {rt en : Nat → Nat}
theorem j_step (J : JR h q C R E rt en) {k a b c : Nat} (hk : k < 10) (ha : a < 10) (hb : b < 10) (hc : c < 10) : Jo h q C R E rt en (f_X6_canBe 0 (nI k) (nI a) (nI b) (nI c) h) (f_X7_judged 41 (nI k) (nI a) (nI b) (nI c) q) := by
  have J0 := J
  obtain ⟨hC, h5, h13, hV, hA, Z, N⟩ := J
  have K := VL_wk (a := 14) (Or.inr rfl) hC h5 hV
  have M := AG_mk2 (a := 14) (r := 44) (Or.inr rfl) hC h13 hV hA
  have hl : ∀ j, j < C → lnH h 14 j < 4 := fun j hj => by have := (K.2.2.2.1 j hj).2; omega
  have hR := Z.1
  have hE := Z.2.1
  have z0 : ∀ {v : Nat}, v < 10 → v ≠ 0 → ¬ nI v = (0 : Int32) := fun {v} h1 h2 z => h2 ((nI_eq (by omega) (by omega)).1 (z.trans L0))
  unfold f_X6_canBe f_X7_judged
  by_cases k1 : k = 1
  · subst k1
    rw [if_pos (show nI 1 = (1 : Int32) from rfl), if_pos (show nI 1 = (1 : Int32) from rfl)]
    by_cases a0 : a = 0
    · subst a0
      rw [if_pos (show nI 0 = (0 : Int32) from rfl), if_pos (show nI 0 = (0 : Int32) from rfl)]
      unfold f_X6_canSwap
      rw [R0_3, p_hasChange K, bnd_s, ifb, p_isChange M, bnd_s, ifb, inI_n (by omega)]
      by_cases qb : b < C
      · rw [if_pos (decide_eq_true qb), if_pos (decide_eq_true qb), p_hasChange K, bnd_s, ifb, p_isChange M, bnd_s, ifb, inI_n (by omega)]
        by_cases qc : c < C
        · have ex : f_X4_exchange 14 (nI b) (nI c) h = some (sA h 16 (upd (upd (h.1 16) b (h.1 16 c)) c (h.1 16 b))) := p_exch (Or.inr rfl) (by omega) (by omega)
          rw [if_pos (decide_eq_true qc), if_pos (decide_eq_true qc), ex, bind_s, bnd_s, if_neg (by decide), R41_3]
          have sw : f_X7_swapOn 44 (nI b) (nI c) q = some (sA q 44 (upd (upd (q.1 44) b (q.1 44 c)) c (q.1 44 b))) := by
            unfold f_X7_swapOn
            rw [N_44, if_pos (okI_n (by omega) (by decide)), if_pos (okI_n (by omega) (by decide)), if_pos (okI_n (by omega) (by decide)), if_pos (okI_n (by omega) (by decide)), nI_clamp (by omega), nI_clamp (by omega)]
            congr 1
            show sI (sA q 44 _) 44 _ _ = _
            rw [sI_sA]
          rw [sw, bind_s]
          have tE : ∀ F, tr (sA h 16 F) 14 = (F, h.1 15, h.1 17) := fun F => by unfold tr; rw [sA_at, sA_ne _ _ (by decide), sA_ne _ _ (by decide)]
          have g1 : ∀ j, j < C → h.1 16 j = q.1 44 j := hA.1
          refine ⟨1, _, _, rfl, rfl, Sc_A (i := 16) h _ (by decide), Sc_A (i := 44) q _ (by decide), hC, by rw [sA_ne _ _ (by decide)]; exact h5, by rw [sA_ne _ _ (by decide)]; exact h13, ?_, ?_, Z, N⟩
          · rw [tE]
            refine ⟨fun i hi => ?_, fun i hi => hV.2 i hi⟩
            show ∃ v : Nat, v < C ∧ upd (upd (h.1 16) b (h.1 16 c)) c (h.1 16 b) i = nI v
            simp only [upd]
            by_cases z1 : i = c
            · rw [if_pos z1]; exact hV.1 b qb
            · rw [if_neg z1]
              by_cases z2 : i = b
              · rw [if_pos z2]; exact hV.1 c qc
              · rw [if_neg z2]; exact hV.1 i hi
          · rw [tE, sA_at]
            refine ⟨fun i hi => ?_, fun i hi => ?_, fun i hi => ?_⟩
            · show upd (upd (h.1 16) b (h.1 16 c)) c (h.1 16 b) i = upd (upd (q.1 44) b (q.1 44 c)) c (q.1 44 b) i
              simp only [upd]
              rw [g1 b qb, g1 c qc, g1 i hi]
            · rw [upd_ne _ _ (by omega), upd_ne _ _ (by omega)]; exact hA.2.1 i hi
            · rw [upd_ne _ _ (by omega), upd_ne _ _ (by omega)]; exact hA.2.2 i hi
        · rw [if_neg (fun z => qc (of_decide_eq_true z)), if_neg (fun z => qc (of_decide_eq_true z)), bnd_s, if_pos rfl]
          exact Jo_ro J0 0
      · rw [if_neg (fun z => qb (of_decide_eq_true z)), if_neg (fun z => qb (of_decide_eq_true z)), bnd_s, if_pos rfl]
        exact Jo_ro J0 0
    · rw [if_neg (z0 ha a0), if_neg (z0 ha a0)]
      exact Jo_ro J0 0
  · have n1 : ¬ nI k = (1 : Int32) := fun z => k1 ((nI_eq (by omega) (by omega)).1 (z.trans L1))
    rw [if_neg n1, if_neg n1]
    by_cases k2 : k = 2
    · subst k2
      rw [if_pos (show nI 2 = (2 : Int32) from rfl), if_pos (show nI 2 = (2 : Int32) from rfl)]
      unfold f_X6_canSign
      rw [R0_3, p_hasChange K, bnd_s, ifb, p_isChange M, bnd_s, ifb, inI_n (by omega)]
      by_cases qa : a < C
      · rw [if_pos (decide_eq_true qa), if_pos (decide_eq_true qa), p_allow, bnd_s, ifb, q_isSign, bnd_s, ifb]
        by_cases qs : sgB (nI b) (nI c) = true
        · have hb4 : b < 4 := by
            unfold sgB at qs
            rcases (show b < 4 ∨ 4 ≤ b by omega) with z | z
            · exact z
            · have e0 : decide (nI b = 0) = false := decide_eq_false (fun w => by have := (nI_eq (by omega) (by omega)).1 (w.trans L0); omega)
              have e1 : decide (nI b = 1) = false := decide_eq_false (fun w => by have := (nI_eq (by omega) (by omega)).1 (w.trans L1); omega)
              have e2 : decide (nI b = 2) = false := decide_eq_false (fun w => by have := (nI_eq (by omega) (by omega)).1 (w.trans L2); omega)
              have e3 : decide (nI b = 3) = false := decide_eq_false (fun w => by have := (nI_eq (by omega) (by omega)).1 (w.trans L3); omega)
              rw [e0, e1, e2, e3] at qs
              simp at qs
          have ex : f_X4_putSign 14 (nI a) (nI b) (nI c) h = some (sA h 15 (upd (h.1 15) (a * 4 + b) (nI c))) := p_putSign (Or.inr rfl) (by omega) hb4 _
          rw [if_pos qs, if_pos qs, ex, bind_s, bnd_s, if_pos (show okZ 1 = true from rfl), R41_3, N_44, L4, pk_mul, nI_add, nI_add, if_pos (okI_n (by omega) (by decide)), nI_clamp (by omega)]
          have tE : ∀ F, tr (sA h 15 F) 14 = (h.1 16, F, h.1 17) := fun F => by unfold tr; rw [sA_at, sA_ne _ _ (by decide), sA_ne _ _ (by decide)]
          refine ⟨1, _, _, rfl, rfl, Sc_A (i := 15) h _ (by decide), Sc_I (i := 44) q _ _ (by decide), hC, by rw [sA_ne _ _ (by decide)]; exact h5, by rw [rI_ne _ _ (by decide)]; exact h13, ?_, ?_, Z, N⟩
          · rw [tE]
            refine ⟨fun i hi => hV.1 i hi, fun i hi => ?_⟩
            show ∃ v : Nat, v < 10 ∧ upd (h.1 15) (a * 4 + b) (nI c) (i * 4 + 1) = nI v
            by_cases z : i * 4 + 1 = a * 4 + b
            · rw [z, upd_at]; exact ⟨c, hc, rfl⟩
            · rw [upd_ne _ _ z]; exact hV.2 i hi
          · rw [tE, sI_row]
            refine ⟨fun i hi => ?_, fun i hi => ?_, fun i hi => ?_⟩
            · rw [upd_ne _ _ (by omega)]; exact hA.1 i hi
            · show upd (h.1 15) (a * 4 + b) (nI c) i = _
              by_cases z : i = a * 4 + b
              · rw [z, upd_at, show 4 + (a * 4 + b) = 4 + 4 * a + b by omega, upd_at]
              · rw [upd_ne _ _ z, upd_ne _ _ (by omega)]; exact hA.2.1 i hi
            · rw [upd_ne _ _ (by omega)]; exact hA.2.2 i hi
        · rw [if_neg qs, if_neg qs, bnd_s, if_pos (show okZ 0 = true from rfl)]
          exact Jo_ro J0 0
      · rw [if_neg (fun z => qa (of_decide_eq_true z)), if_neg (fun z => qa (of_decide_eq_true z)), bnd_s, if_pos (show okZ 0 = true from rfl)]
        exact Jo_ro J0 0
    · have n2 : ¬ nI k = (2 : Int32) := fun z => k2 ((nI_eq (by omega) (by omega)).1 (z.trans L2))
      rw [if_neg n2, if_neg n2]
      by_cases k3 : k = 3
      · subst k3
        rw [if_pos (show nI 3 = (3 : Int32) from rfl), if_pos (show nI 3 = (3 : Int32) from rfl), R0_1, R0_3, p_hasPair Z, bnd_s, ifb, p_isRoot N, bnd_s, ifb, inI_n (by omega), inI_n (by omega)]
        by_cases qa : a < R
        · by_cases qb : b < E
          · rw [if_pos (by rw [decide_eq_true qa, decide_eq_true qb]; rfl), if_pos (decide_eq_true qa), p_isEnding N, bnd_s, ifb, inI_n (by omega), if_pos (decide_eq_true qb), p_makeOf K Z qa qb, bnd_s, R41_3, L15, p_madeBy M N qa qb (by decide), bnd_s]
            have hw := wlk_lt (S := SH h 14) (set := 15) K.T10 C _ (Nat.le_refl _) (Z.lt qa qb)
            rw [p_len hw, bnd_s, p_size hw, bnd_s]
            by_cases qe : nI (szN 6 (wlk (lnH h 14) (SH h 14) (TH h 14) 15 C (jn (rt a) (en b)))) = nI c
            · rw [if_pos qe, if_pos qe]; exact Jo_ro J0 1
            · rw [if_neg qe, if_neg qe]; exact Jo_ro J0 0
          · rw [if_neg (by rw [decide_eq_false qb, Bool.and_false]; decide), if_pos (decide_eq_true qa), p_isEnding N, bnd_s, ifb, inI_n (by omega), if_neg (fun z => qb (of_decide_eq_true z))]
            exact Jo_ro J0 0
        · rw [if_neg (by rw [decide_eq_false qa, Bool.false_and]; decide), if_neg (fun z => qa (of_decide_eq_true z))]
          exact Jo_ro J0 0
      · have n3 : ¬ nI k = (3 : Int32) := fun z => k3 ((nI_eq (by omega) (by omega)).1 (z.trans L3))
        rw [if_neg n3, if_neg n3]
        by_cases k4 : k = 4
        · subst k4
          rw [if_pos (show nI 4 = (4 : Int32) from rfl), if_pos (show nI 4 = (4 : Int32) from rfl)]
          by_cases a0 : a = 0
          · subst a0
            rw [if_pos (show nI 0 = (0 : Int32) from rfl), if_pos (show nI 0 = (0 : Int32) from rfl), R0_3, p_hasChange K, bnd_s, ifb, p_isChange M, bnd_s, ifb, inI_n (by omega)]
            by_cases qb : b < C
            · rw [if_pos (decide_eq_true qb), if_pos (decide_eq_true qb), p_hasChange K, bnd_s, ifb, p_isChange M, bnd_s, ifb, inI_n (by omega)]
              by_cases qc : c < C
              · rw [if_pos (decide_eq_true qc), if_pos (decide_eq_true qc), p_cro K Z qb qc, bnd_s, R41_3, q_cro M N qb qc, bnd_s, ifb, ifb]
                by_cases qx : crA E rt en (TH h 14) (SH h 14) b c (R * E) = true
                · rw [if_pos qx, if_pos qx]; exact Jo_ro J0 1
                · rw [if_neg qx, if_neg qx]; exact Jo_ro J0 0
              · rw [if_neg (fun z => qc (of_decide_eq_true z)), if_neg (fun z => qc (of_decide_eq_true z))]
                exact Jo_ro J0 0
            · rw [if_neg (fun z => qb (of_decide_eq_true z)), if_neg (fun z => qb (of_decide_eq_true z))]
              exact Jo_ro J0 0
          · rw [if_neg (z0 ha a0), if_neg (z0 ha a0)]
            exact Jo_ro J0 0
        · have n4 : ¬ nI k = (4 : Int32) := fun z => k4 ((nI_eq (by omega) (by omega)).1 (z.trans L4))
          rw [if_neg n4, if_neg n4]
          by_cases k5 : k = 5
          · subst k5
            rw [if_pos (show nI 5 = (5 : Int32) from rfl), if_pos (show nI 5 = (5 : Int32) from rfl), R0_3, p_hasChange K, bnd_s, ifb, p_isChange M, bnd_s, ifb, inI_n (by omega)]
            by_cases qa : a < C
            · rw [if_pos (decide_eq_true qa), if_pos (decide_eq_true qa)]
              by_cases b0 : b = 0
              · subst b0
                rw [if_pos (show nI 0 = (0 : Int32) from rfl), if_pos (show nI 0 = (0 : Int32) from rfl)]
                by_cases c0 : c = 0
                · subst c0
                  obtain ⟨m, hm, em⟩ := acA_nat (E := E) (rt := rt) (en := en) (T := TH h 14) (S := SH h 14) hl (R * E)
                  rw [if_pos (show nI 0 = (0 : Int32) from rfl), if_pos (show nI 0 = (0 : Int32) from rfl), p_act K Z, bnd_s, R41_3, q_act M N, bnd_s, em]
                  unfold f_X7_has
                  by_cases qx : ((nI m >>> (nI a &&& 31)) &&& 1) = 1
                  · rw [if_neg (fun z => (bit16 m hm a (by omega)).1 z qx), if_pos qx, bnd_s, if_neg (by decide)]; exact Jo_ro J0 1
                  · rw [if_pos ((bit16 m hm a (by omega)).2 qx), if_neg qx, bnd_s, if_pos rfl]; exact Jo_ro J0 0
                · rw [if_neg (z0 hc c0), if_neg (z0 hc c0)]
                  exact Jo_ro J0 0
              · rw [if_neg (z0 hb b0), if_neg (z0 hb b0)]
                exact Jo_ro J0 0
            · rw [if_neg (fun z => qa (of_decide_eq_true z)), if_neg (fun z => qa (of_decide_eq_true z))]
              exact Jo_ro J0 0
          · have n5 : ¬ nI k = (5 : Int32) := fun z => k5 ((nI_eq (by omega) (by omega)).1 (z.trans L5))
            rw [if_neg n5, if_neg n5]
            by_cases k6 : k = 6
            · subst k6
              rw [if_pos (show nI 6 = (6 : Int32) from rfl), if_pos (show nI 6 = (6 : Int32) from rfl)]
              by_cases a0 : a = 0
              · subst a0
                rw [if_pos (show nI 0 = (0 : Int32) from rfl), if_pos (show nI 0 = (0 : Int32) from rfl)]
                by_cases b0 : b = 0
                · subst b0
                  rw [if_pos (show nI 0 = (0 : Int32) from rfl), if_pos (show nI 0 = (0 : Int32) from rfl), R0_3, p_exc (fm := h.1 17) K Z (fun j _ => rfl), bnd_s, R41_3, q_exc (fm := h.1 17) M N (fun j hj => (hA.2.2 j hj).symm), bnd_s]
                  by_cases qx : nI c < nI (exR (h.1 17) (mkW C (lnH h 14) rt en (TH h 14) (SH h 14)) E R)
                  · rw [if_pos qx, if_pos qx]; exact Jo_ro J0 0
                  · rw [if_neg qx, if_neg qx]; exact Jo_ro J0 1
                · rw [if_neg (z0 hb b0), if_neg (z0 hb b0)]
                  exact Jo_ro J0 0
              · rw [if_neg (z0 ha a0), if_neg (z0 ha a0)]
                exact Jo_ro J0 0
            · have n6 : ¬ nI k = (6 : Int32) := fun z => k6 ((nI_eq (by omega) (by omega)).1 (z.trans L6))
              rw [if_neg n6, if_neg n6]
              exact Jo_ro J0 0
theorem p_wlf {m n : Nat} (hm : m < 2 ^ 63) (hn : n ≤ 4) (h : Hp) : f_X6_withoutLastFours (lN m) (nI n) h = some (lN (m / 10000 ^ n), h) := by
  have L : ∀ (d f i : Nat), d < f → i + d = n → f_X6_withoutLastFours_5 (lN m) (nI n) f (lN (m / 10000 ^ i)) (nI i) h = some (lN (m / 10000 ^ n), h) := by
    intro d
    induction d with
    | zero =>
      intro f i hf hd
      obtain ⟨f, rfl⟩ : ∃ m, f = m + 1 := ⟨f - 1, by omega⟩
      rw [s_X6_withoutLastFours_5]
      unfold g_X6_withoutLastFours_5
      rw [if_pos (by rw [nI_leI (by omega) (by omega)]; omega), show i = n by omega]
    | succ d ih =>
      intro f i hf hd
      obtain ⟨f, rfl⟩ : ∃ m, f = m + 1 := ⟨f - 1, by omega⟩
      have hl : m / 10000 ^ i < 2 ^ 63 := Nat.lt_of_le_of_lt (Nat.div_le_self _ _) hm
      rw [← ih f (i + 1) (by omega) (by omega), s_X6_withoutLastFours_5]
      unfold g_X6_withoutLastFours_5
      rw [if_neg (by rw [nI_leI (by omega) (by omega)]; omega), show (10000 : Int64) = lN 10000 from rfl, pk_lDiv hl (by decide) (by decide), L1, nI_add, Nat.div_div_eq_div_mul, ← Nat.pow_succ]
  have := L n FU 0 (by unfold FU; omega) (by omega)
  rw [Nat.pow_zero, Nat.div_one] at this
  exact this
theorem p_tth {n : Nat} (hn : n ≤ 4) (h : Hp) : f_X7_tenThousands (nI n) h = some (lN (10000 ^ n), h) := by
  have L : ∀ (d f i : Nat), d < f → i + d = n → f_X7_tenThousands_4 (nI n) f (lN (10000 ^ i)) (nI i) h = some (lN (10000 ^ n), h) := by
    intro d
    induction d with
    | zero =>
      intro f i hf hd
      obtain ⟨f, rfl⟩ : ∃ m, f = m + 1 := ⟨f - 1, by omega⟩
      rw [s_X7_tenThousands_4]
      unfold g_X7_tenThousands_4
      rw [if_pos (by rw [nI_leI (by omega) (by omega)]; omega), show i = n by omega]
    | succ d ih =>
      intro f i hf hd
      obtain ⟨f, rfl⟩ : ∃ m, f = m + 1 := ⟨f - 1, by omega⟩
      rw [← ih f (i + 1) (by omega) (by omega), s_X7_tenThousands_4]
      unfold g_X7_tenThousands_4
      rw [if_neg (by rw [nI_leI (by omega) (by omega)]; omega), show (10000 : Int64) = lN 10000 from rfl, lN_mul, ← Nat.pow_succ, L1, nI_add]
  exact L n FU 0 (by unfold FU; omega) (by omega)
end JUDGE
