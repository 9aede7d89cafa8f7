theorem L_loop {p : Program} {l : Launch} {e : Env} {s : State} {m : MethodId} {below : List Frame} {meth : Method} {c : Code} {b L : Nat} {xs : Nat → Int32} {X : Cx} {fa : Nat} (G : LX p s m c b L xs X fa) (hlk : meth.locks = false) (hr : meth.sig.returnType = ret) : ∀ (d i : Nat), L ≤ i + d → i ≤ L + 5 → LB p l e s m below meth c b X i 18 := by
  intro d
  induction d using Nat.strongRecOn with
  | ind d ih =>
    intro i hd hiL H locs ls h hl hH hR
    obtain ⟨S, hK, hN, hX, hbl, hF, hL⟩ := id G
    obtain ⟨hx, hb, hml, hown, hts⟩ := id S
    have hbA : ¬ nA s b := fun z => by have z : s.heap.size ≤ b := z; omega
    refine lv_iload_n hx hb dL_law_18 rfl (lv_at hl 3 rfl) ?_
    refine lv_aload_n hx hb dL_law_19 rfl (lv_at hl 0 rfl) ?_
    refine va_slen (A := nA s) hx hb hX hbl hbA hH.2.1 dL_law_20 ?_
    refine lv_iconst (v := 5) hx hb dL_law_21 (by decide) ?_
    refine lv_isub hx hb dL_law_22 ?_
    have e5 : (nI L - nI 5).toInt = (L : Int) - 5 := pk_sub_toInt (by omega) (by decide)
    have e5 : (Int32.ofNat L - 5).toInt = (L : Int) - 5 := e5
    have ei : (nI i).toInt = (i : Int) := nI_toInt (by omega)
    refine lv_icmp_gt (tgt := 1073) hx hb dL_law_23 (by decide) (fun c1 => ?_) (fun c1 => ?_)
    · refine lv_iconst (v := 1) hx hb dL_law_1073 (by decide) ?_
      refine va_forget (fun q hq => hH.2.1.2.2 q hq) ?_
      refine W.widen (k := 600000) (n := 7302250) (Nat.le_of_ble_eq_true rfl) (Nat.le_of_ble_eq_true rfl) ?_
      exact lw_ret hx hb hr hlk dL_law_1074
    · have hi : i + 5 ≤ L := by
        rw [Int32.lt_iff_toInt_lt, e5, ei] at c1
        omega
      have nx : LB p l e s m below meth c b X i 1067 := by
        intro H locs ls h hl hH hR
        refine lv_iinc (v := nI i + 5) (lv' := [(3, .int (nI i + 5)), (0, .ref b), (1, .ref (X.2.2.2 0)), (2, .ref (X.2.2.2 41))]) hx hb dL_law_1067 hl (k := 3) rfl rfl (by decide) rfl (fun ls hl => ?_)
        refine lv_goto (tgt := 18) hx hb dL_law_1070 (by decide) ?_
        have e : nI i + 5 = nI (i + 5) := nI_add i 5
        rw [e] at hl
        exact ih (d - 5) (by omega) (i + 5) (by omega) (by omega) H locs ls h (lv_sub hl [1, 2, 3, 0] rfl) hH hR
      refine lv_aload_n hx hb dL_law_26 rfl (lv_at hl 0 rfl) ?_
      refine lv_iload_n hx hb dL_law_27 rfl (lv_at hl 3 rfl) ?_
      refine va_sld (A := nA s) hx hb hX hbl hbA hH.2.1 (vin0 hi hL) dL_law_28 ?_
      refine lv_bipush (v := 31) hx hb dL_law_29 (by decide) ?_
      refine lv_iand hx hb dL_law_31 ?_
      obtain ⟨k, hk, ek⟩ := pk_andE (xs (nI i).toNatClampNeg) (m := 31) 5 (by decide)
      have hk : k < 32 := hk
      rw [ek]
      rcases (show k = 0 ∨ k = 1 ∨ k = 2 ∨ k = 3 ∨ k = 4 ∨ k = 5 ∨ k = 6 ∨ k = 7 ∨ k = 8 ∨ k = 9 ∨ k = 10 ∨ k = 11 ∨ k = 12 ∨ k = 13 ∨ k = 14 ∨ k = 15 ∨ k = 16 ∨ k = 17 ∨ k = 18 ∨ k = 19 ∨ k = 20 ∨ k = 21 ∨ k = 22 ∨ k = 23 ∨ k = 24 ∨ k = 25 ∨ k = 26 ∨ k = 27 ∨ 27 < k by omega) with rfl | rfl | rfl | rfl | rfl | rfl | rfl | rfl | rfl | rfl | rfl | rfl | rfl | rfl | rfl | rfl | rfl | rfl | rfl | rfl | rfl | rfl | rfl | rfl | rfl | rfl | rfl | rfl | hk2
      · exact lv_tableIn (off := 128) (tgt := 160) hx hb dL_law_32 (by decide) (by decide) (by decide) (by decide) (Lc_0 G hi nx H locs ls h hl hH hR)
      · exact lv_tableIn (off := 151) (tgt := 183) hx hb dL_law_32 (by decide) (by decide) (by decide) (by decide) (Lc_1 G hi nx H locs ls h hl hH hR)
      · exact lv_tableIn (off := 164) (tgt := 196) hx hb dL_law_32 (by decide) (by decide) (by decide) (by decide) (Lc_2 G hi nx H locs ls h hl hH hR)
      · exact lv_tableIn (off := 187) (tgt := 219) hx hb dL_law_32 (by decide) (by decide) (by decide) (by decide) (Lc_3 G hi nx H locs ls h hl hH hR)
      · exact lv_tableIn (off := 200) (tgt := 232) hx hb dL_law_32 (by decide) (by decide) (by decide) (by decide) (Lc_4 G hi nx H locs ls h hl hH hR)
      · exact lv_tableIn (off := 223) (tgt := 255) hx hb dL_law_32 (by decide) (by decide) (by decide) (by decide) (Lc_5 G hi nx H locs ls h hl hH hR)
      · exact lv_tableIn (off := 256) (tgt := 288) hx hb dL_law_32 (by decide) (by decide) (by decide) (by decide) (Lc_6 G hi nx H locs ls h hl hH hR)
      · exact lv_tableIn (off := 289) (tgt := 321) hx hb dL_law_32 (by decide) (by decide) (by decide) (by decide) (Lc_7 G hi nx H locs ls h hl hH hR)
      · exact lv_tableIn (off := 312) (tgt := 344) hx hb dL_law_32 (by decide) (by decide) (by decide) (by decide) (Lc_8 G hi nx H locs ls h hl hH hR)
      · exact lv_tableIn (off := 345) (tgt := 377) hx hb dL_law_32 (by decide) (by decide) (by decide) (by decide) (Lc_9 G hi nx H locs ls h hl hH hR)
      · exact lv_tableIn (off := 388) (tgt := 420) hx hb dL_law_32 (by decide) (by decide) (by decide) (by decide) (Lc_10 G hi nx H locs ls h hl hH hR)
      · exact lv_tableIn (off := 421) (tgt := 453) hx hb dL_law_32 (by decide) (by decide) (by decide) (by decide) (Lc_11 G hi nx H locs ls h hl hH hR)
      · exact lv_tableIn (off := 454) (tgt := 486) hx hb dL_law_32 (by decide) (by decide) (by decide) (by decide) (Lc_12 G hi nx H locs ls h hl hH hR)
      · exact lv_tableIn (off := 487) (tgt := 519) hx hb dL_law_32 (by decide) (by decide) (by decide) (by decide) (Lc_13 G hi nx H locs ls h hl hH hR)
      · exact lv_tableIn (off := 530) (tgt := 562) hx hb dL_law_32 (by decide) (by decide) (by decide) (by decide) (Lc_14 G hi nx H locs ls h hl hH hR)
      · exact lv_tableIn (off := 573) (tgt := 605) hx hb dL_law_32 (by decide) (by decide) (by decide) (by decide) (Lc_15 G hi nx H locs ls h hl hH hR)
      · exact lv_tableIn (off := 586) (tgt := 618) hx hb dL_law_32 (by decide) (by decide) (by decide) (by decide) (Lc_16 G hi nx H locs ls h hl hH hR)
      · exact lv_tableIn (off := 619) (tgt := 651) hx hb dL_law_32 (by decide) (by decide) (by decide) (by decide) (Lc_17 G hi nx H locs ls h hl hH hR)
      · exact lv_tableIn (off := 642) (tgt := 674) hx hb dL_law_32 (by decide) (by decide) (by decide) (by decide) (Lc_18 G hi nx H locs ls h hl hH hR)
      · exact lv_tableIn (off := 705) (tgt := 737) hx hb dL_law_32 (by decide) (by decide) (by decide) (by decide) (Lc_19 G hi nx H locs ls h hl hH hR)
      · exact lv_tableIn (off := 754) (tgt := 786) hx hb dL_law_32 (by decide) (by decide) (by decide) (by decide) (Lc_20 G hi nx H locs ls h hl hH hR)
      · exact lv_tableIn (off := 807) (tgt := 839) hx hb dL_law_32 (by decide) (by decide) (by decide) (by decide) (Lc_21 G hi nx H locs ls h hl hH hR)
      · exact lv_tableIn (off := 820) (tgt := 852) hx hb dL_law_32 (by decide) (by decide) (by decide) (by decide) (Lc_22 G hi nx H locs ls h hl hH hR)
      · exact lv_tableIn (off := 843) (tgt := 875) hx hb dL_law_32 (by decide) (by decide) (by decide) (by decide) (Lc_23 G hi nx H locs ls h hl hH hR)
      · exact lv_tableIn (off := 912) (tgt := 944) hx hb dL_law_32 (by decide) (by decide) (by decide) (by decide) (Lc_24 G hi nx H locs ls h hl hH hR)
      · exact lv_tableIn (off := 966) (tgt := 998) hx hb dL_law_32 (by decide) (by decide) (by decide) (by decide) (Lc_25 G hi nx H locs ls h hl hH hR)
      · exact lv_tableIn (off := 989) (tgt := 1021) hx hb dL_law_32 (by decide) (by decide) (by decide) (by decide) (Lc_26 G hi nx H locs ls h hl hH hR)
      · exact lv_tableIn (off := 1012) (tgt := 1044) hx hb dL_law_32 (by decide) (by decide) (by decide) (by decide) (Lc_27 G hi nx H locs ls h hl hH hR)
      · exact lv_tableOut (tgt := 1067) hx hb dL_law_32 (Or.inr (by rw [nI_toInt (by omega)]; omega)) (by decide) (nx H locs ls h hl hH hR)
