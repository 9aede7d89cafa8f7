set_option maxHeartbeats 4000000 in
set_option maxRecDepth 100000 in
theorem Lc_21 {p : Program} {l : Launch} {e : Env} {s : State} {m : MethodId} {below : List Frame} {meth : Method} {c : Code} {b L : Nat} {xs : Nat → Int32} {X : Cx} {fa : Nat} (G : LX p s m c b L xs X fa) {i : Nat} (hi : i + 5 ≤ L) (nx : LB p l e s m below meth c b X i 1067) : LB p l e s m below meth c b X i 839 := by
  obtain ⟨S, hK, hN, hX, hbl, hF, hL⟩ := G
  obtain ⟨hx, hb, hml, hown, hts⟩ := id S
  have hbA : ¬ nA s b := fun z => by have z : s.heap.size ≤ b := z; omega
  intro H locs ls h hl hH hR
  have hI := hH.2.2.1
  refine lv_aload_n hx hb dL_law_839 rfl (lv_at hl 1 rfl) ?_
  obtain ⟨r, h1, h2, e1, e2, hR2⟩ := st_unsee hR
  refine wk_callVi (ci := 5) (b := 0) (As := []) (rest := []) S hK hN hH rfl (by decide) rfl (C_X6_unsee l X hI rfl _ _ _ e1) (cwV 0 hts (gV tTl m_563 m_564 m_565 m_35 m_566) rfl rfl rfl hdV_X6_unsee ⟨Nat.le_of_ble_eq_true rfl, Nat.le_of_ble_eq_true rfl⟩) hl.1 rfl rfl (Nat.le_of_ble_eq_true rfl) dL_law_840 ⟨Nat.le_of_ble_eq_true rfl, Nat.le_of_ble_eq_true rfl⟩ (fun H locs hH => ?_)
  refine lv_aload_n hx hb dL_law_843 rfl (lv_at hl 2 rfl) ?_
  refine wk_callVi (ci := 6) (b := 41) (As := []) (rest := [.int r]) S hK hN hH rfl (by decide) rfl (C_X7_unsee l X hI rfl _ _ _ e2) (cwV 0 hts (gV tTl m_946 m_947 m_948 m_41 m_949) rfl rfl rfl hdV_X7_unsee ⟨Nat.le_of_ble_eq_true rfl, Nat.le_of_ble_eq_true rfl⟩) hl.1 rfl rfl (Nat.le_of_ble_eq_true rfl) dL_law_844 ⟨Nat.le_of_ble_eq_true rfl, Nat.le_of_ble_eq_true rfl⟩ (fun H locs hH => ?_)
  refine lv_icmp_eq (tgt := 1067) hx hb dL_law_847 (by decide) (fun _ => ?_) (fun c1 => absurd rfl c1)
  exact nx H locs ls h2 hl hH hR2
set_option maxHeartbeats 4000000 in
set_option maxRecDepth 100000 in
theorem Lc_22 {p : Program} {l : Launch} {e : Env} {s : State} {m : MethodId} {below : List Frame} {meth : Method} {c : Code} {b L : Nat} {xs : Nat → Int32} {X : Cx} {fa : Nat} (G : LX p s m c b L xs X fa) {i : Nat} (hi : i + 5 ≤ L) (nx : LB p l e s m below meth c b X i 1067) : LB p l e s m below meth c b X i 852 := by
  obtain ⟨S, hK, hN, hX, hbl, hF, hL⟩ := G
  obtain ⟨hx, hb, hml, hown, hts⟩ := id S
  have hbA : ¬ nA s b := fun z => by have z : s.heap.size ≤ b := z; omega
  intro H locs ls h hl hH hR
  have hI := hH.2.2.1
  refine lv_aload_n hx hb dL_law_852 rfl (lv_at hl 1 rfl) ?_
  refine lv_aload_n hx hb dL_law_853 rfl (lv_at hl 0 rfl) ?_
  refine lv_iload_n hx hb dL_law_854 rfl (lv_at hl 3 rfl) ?_
  refine lv_iconst (v := 1) hx hb dL_law_855 (by decide) ?_
  refine lv_iadd hx hb dL_law_856 ?_
  refine va_sld (A := nA s) hx hb hX hbl hbA hH.2.1 (vin 1 (by decide) hi hL) dL_law_857 ?_
  obtain ⟨r, h1, h2, e1, e2, hR2⟩ := st_which hR ((xs (nI i + 1).toNatClampNeg))
  refine wk_callVi (ci := 5) (b := 0) (As := [.int (xs (nI i + 1).toNatClampNeg)]) (rest := []) S hK hN hH rfl (by decide) rfl (C_X6_which l X hI rfl _ _ _ _ e1) (cwV 1 hts (gV tTl m_567 m_568 m_569 m_35 m_570) rfl rfl rfl hdV_X6_which ⟨Nat.le_of_ble_eq_true rfl, Nat.le_of_ble_eq_true rfl⟩) hl.1 rfl rfl (Nat.le_of_ble_eq_true rfl) dL_law_858 ⟨Nat.le_of_ble_eq_true rfl, Nat.le_of_ble_eq_true rfl⟩ (fun H locs hH => ?_)
  refine lv_aload_n hx hb dL_law_861 rfl (lv_at hl 2 rfl) ?_
  refine lv_aload_n hx hb dL_law_862 rfl (lv_at hl 0 rfl) ?_
  refine lv_iload_n hx hb dL_law_863 rfl (lv_at hl 3 rfl) ?_
  refine lv_iconst (v := 1) hx hb dL_law_864 (by decide) ?_
  refine lv_iadd hx hb dL_law_865 ?_
  refine va_sld (A := nA s) hx hb hX hbl hbA hH.2.1 (vin 1 (by decide) hi hL) dL_law_866 ?_
  refine wk_callVi (ci := 6) (b := 41) (As := [.int (xs (nI i + 1).toNatClampNeg)]) (rest := [.int r]) S hK hN hH rfl (by decide) rfl (C_X7_which l X hI rfl _ _ _ _ e2) (cwV 1 hts (gV tTl m_950 m_951 m_952 m_41 m_953) rfl rfl rfl hdV_X7_which ⟨Nat.le_of_ble_eq_true rfl, Nat.le_of_ble_eq_true rfl⟩) hl.1 rfl rfl (Nat.le_of_ble_eq_true rfl) dL_law_867 ⟨Nat.le_of_ble_eq_true rfl, Nat.le_of_ble_eq_true rfl⟩ (fun H locs hH => ?_)
  refine lv_icmp_eq (tgt := 1067) hx hb dL_law_870 (by decide) (fun _ => ?_) (fun c1 => absurd rfl c1)
  exact nx H locs ls h2 hl hH hR2
set_option maxHeartbeats 4000000 in
set_option maxRecDepth 100000 in
theorem Lc_23 {p : Program} {l : Launch} {e : Env} {s : State} {m : MethodId} {below : List Frame} {meth : Method} {c : Code} {b L : Nat} {xs : Nat → Int32} {X : Cx} {fa : Nat} (G : LX p s m c b L xs X fa) {i : Nat} (hi : i + 5 ≤ L) (nx : LB p l e s m below meth c b X i 1067) : LB p l e s m below meth c b X i 875 := by
  obtain ⟨S, hK, hN, hX, hbl, hF, hL⟩ := G
  obtain ⟨hx, hb, hml, hown, hts⟩ := id S
  have hbA : ¬ nA s b := fun z => by have z : s.heap.size ≤ b := z; omega
  intro H locs ls h hl hH hR
  have hI := hH.2.2.1
  by_cases zq : xs (nI i + 4).toNatClampNeg = 0
  · refine lv_aload_n hx hb dL_law_875 rfl (lv_at hl 1 rfl) ?_
    refine lv_aload_n hx hb dL_law_876 rfl (lv_at hl 0 rfl) ?_
    refine lv_iload_n hx hb dL_law_877 rfl (lv_at hl 3 rfl) ?_
    refine lv_iconst (v := 1) hx hb dL_law_878 (by decide) ?_
    refine lv_iadd hx hb dL_law_879 ?_
    refine va_sld (A := nA s) hx hb hX hbl hbA hH.2.1 (vin 1 (by decide) hi hL) dL_law_880 ?_
    refine lv_aload_n hx hb dL_law_881 rfl (lv_at hl 0 rfl) ?_
    refine lv_iload_n hx hb dL_law_882 rfl (lv_at hl 3 rfl) ?_
    refine lv_iconst (v := 2) hx hb dL_law_883 (by decide) ?_
    refine lv_iadd hx hb dL_law_884 ?_
    refine va_sld (A := nA s) hx hb hX hbl hbA hH.2.1 (vin 2 (by decide) hi hL) dL_law_885 ?_
    refine lv_aload_n hx hb dL_law_886 rfl (lv_at hl 0 rfl) ?_
    refine lv_iload_n hx hb dL_law_887 rfl (lv_at hl 3 rfl) ?_
    refine lv_iconst (v := 3) hx hb dL_law_888 (by decide) ?_
    refine lv_iadd hx hb dL_law_889 ?_
    refine va_sld (A := nA s) hx hb hX hbl hbA hH.2.1 (vin 3 (by decide) hi hL) dL_law_890 ?_
    refine lv_aload_n hx hb dL_law_891 rfl (lv_at hl 0 rfl) ?_
    refine lv_iload_n hx hb dL_law_892 rfl (lv_at hl 3 rfl) ?_
    refine lv_iconst (v := 4) hx hb dL_law_893 (by decide) ?_
    refine lv_iadd hx hb dL_law_894 ?_
    refine va_sld (A := nA s) hx hb hX hbl hbA hH.2.1 (vin 4 (by decide) hi hL) dL_law_895 ?_
    refine lv_if_eq (tgt := 903) hx hb dL_law_896 (by decide) (fun _ => ?_) (fun c1 => absurd zq c1)
    refine lv_iconst (v := 0) hx hb dL_law_903 (by decide) ?_
    obtain ⟨r, h1, h2, e1, e2, hR2⟩ := st_fails hR ((xs (nI i + 1).toNatClampNeg)) ((xs (nI i + 2).toNatClampNeg)) ((xs (nI i + 3).toNatClampNeg)) (0)
    refine wk_callVi (ci := 5) (b := 0) (As := [.int (xs (nI i + 1).toNatClampNeg), .int (xs (nI i + 2).toNatClampNeg), .int (xs (nI i + 3).toNatClampNeg), .int 0]) (rest := []) S hK hN hH rfl (by decide) rfl (C_X6_fails l X hI rfl _ _ _ _ _ _ _ e1) (cwV 4 hts (gV tTl m_582 m_583 m_584 m_35 m_585) rfl rfl rfl hdV_X6_fails ⟨Nat.le_of_ble_eq_true rfl, Nat.le_of_ble_eq_true rfl⟩) hl.1 rfl rfl (Nat.le_of_ble_eq_true rfl) dL_law_904 ⟨Nat.le_of_ble_eq_true rfl, Nat.le_of_ble_eq_true rfl⟩ (fun H locs hH => ?_)
    refine lv_aload_n hx hb dL_law_907 rfl (lv_at hl 2 rfl) ?_
    refine lv_aload_n hx hb dL_law_908 rfl (lv_at hl 0 rfl) ?_
    refine lv_iload_n hx hb dL_law_909 rfl (lv_at hl 3 rfl) ?_
    refine lv_iconst (v := 1) hx hb dL_law_910 (by decide) ?_
    refine lv_iadd hx hb dL_law_911 ?_
    refine va_sld (A := nA s) hx hb hX hbl hbA hH.2.1 (vin 1 (by decide) hi hL) dL_law_912 ?_
    refine lv_aload_n hx hb dL_law_913 rfl (lv_at hl 0 rfl) ?_
    refine lv_iload_n hx hb dL_law_914 rfl (lv_at hl 3 rfl) ?_
    refine lv_iconst (v := 2) hx hb dL_law_915 (by decide) ?_
    refine lv_iadd hx hb dL_law_916 ?_
    refine va_sld (A := nA s) hx hb hX hbl hbA hH.2.1 (vin 2 (by decide) hi hL) dL_law_917 ?_
    refine lv_aload_n hx hb dL_law_918 rfl (lv_at hl 0 rfl) ?_
    refine lv_iload_n hx hb dL_law_919 rfl (lv_at hl 3 rfl) ?_
    refine lv_iconst (v := 3) hx hb dL_law_920 (by decide) ?_
    refine lv_iadd hx hb dL_law_921 ?_
    refine va_sld (A := nA s) hx hb hX hbl hbA hH.2.1 (vin 3 (by decide) hi hL) dL_law_922 ?_
    refine lv_aload_n hx hb dL_law_923 rfl (lv_at hl 0 rfl) ?_
    refine lv_iload_n hx hb dL_law_924 rfl (lv_at hl 3 rfl) ?_
    refine lv_iconst (v := 4) hx hb dL_law_925 (by decide) ?_
    refine lv_iadd hx hb dL_law_926 ?_
    refine va_sld (A := nA s) hx hb hX hbl hbA hH.2.1 (vin 4 (by decide) hi hL) dL_law_927 ?_
    refine lv_if_eq (tgt := 935) hx hb dL_law_928 (by decide) (fun _ => ?_) (fun c1 => absurd zq c1)
    refine lv_iconst (v := 0) hx hb dL_law_935 (by decide) ?_
    refine wk_callVi (ci := 6) (b := 41) (As := [.int (xs (nI i + 1).toNatClampNeg), .int (xs (nI i + 2).toNatClampNeg), .int (xs (nI i + 3).toNatClampNeg), .int 0]) (rest := [.int r]) S hK hN hH rfl (by decide) rfl (C_X7_fails l X hI rfl _ _ _ _ _ _ _ e2) (cwV 4 hts (gV tTl m_961 m_962 m_963 m_41 m_964) rfl rfl rfl hdV_X7_fails ⟨Nat.le_of_ble_eq_true rfl, Nat.le_of_ble_eq_true rfl⟩) hl.1 rfl rfl (Nat.le_of_ble_eq_true rfl) dL_law_936 ⟨Nat.le_of_ble_eq_true rfl, Nat.le_of_ble_eq_true rfl⟩ (fun H locs hH => ?_)
    refine lv_icmp_eq (tgt := 1067) hx hb dL_law_939 (by decide) (fun _ => ?_) (fun c1 => absurd rfl c1)
    exact nx H locs ls h2 hl hH hR2
  · refine lv_aload_n hx hb dL_law_875 rfl (lv_at hl 1 rfl) ?_
    refine lv_aload_n hx hb dL_law_876 rfl (lv_at hl 0 rfl) ?_
    refine lv_iload_n hx hb dL_law_877 rfl (lv_at hl 3 rfl) ?_
    refine lv_iconst (v := 1) hx hb dL_law_878 (by decide) ?_
    refine lv_iadd hx hb dL_law_879 ?_
    refine va_sld (A := nA s) hx hb hX hbl hbA hH.2.1 (vin 1 (by decide) hi hL) dL_law_880 ?_
    refine lv_aload_n hx hb dL_law_881 rfl (lv_at hl 0 rfl) ?_
    refine lv_iload_n hx hb dL_law_882 rfl (lv_at hl 3 rfl) ?_
    refine lv_iconst (v := 2) hx hb dL_law_883 (by decide) ?_
    refine lv_iadd hx hb dL_law_884 ?_
    refine va_sld (A := nA s) hx hb hX hbl hbA hH.2.1 (vin 2 (by decide) hi hL) dL_law_885 ?_
    refine lv_aload_n hx hb dL_law_886 rfl (lv_at hl 0 rfl) ?_
    refine lv_iload_n hx hb dL_law_887 rfl (lv_at hl 3 rfl) ?_
    refine lv_iconst (v := 3) hx hb dL_law_888 (by decide) ?_
    refine lv_iadd hx hb dL_law_889 ?_
    refine va_sld (A := nA s) hx hb hX hbl hbA hH.2.1 (vin 3 (by decide) hi hL) dL_law_890 ?_
    refine lv_aload_n hx hb dL_law_891 rfl (lv_at hl 0 rfl) ?_
    refine lv_iload_n hx hb dL_law_892 rfl (lv_at hl 3 rfl) ?_
    refine lv_iconst (v := 4) hx hb dL_law_893 (by decide) ?_
    refine lv_iadd hx hb dL_law_894 ?_
    refine va_sld (A := nA s) hx hb hX hbl hbA hH.2.1 (vin 4 (by decide) hi hL) dL_law_895 ?_
    refine lv_if_eq (tgt := 903) hx hb dL_law_896 (by decide) (fun c1 => absurd c1 zq) (fun _ => ?_)
    refine lv_iconst (v := 1) hx hb dL_law_899 (by decide) ?_
    refine lv_goto (tgt := 904) hx hb dL_law_900 (by decide) ?_
    obtain ⟨r, h1, h2, e1, e2, hR2⟩ := st_fails hR ((xs (nI i + 1).toNatClampNeg)) ((xs (nI i + 2).toNatClampNeg)) ((xs (nI i + 3).toNatClampNeg)) (1)
    refine wk_callVi (ci := 5) (b := 0) (As := [.int (xs (nI i + 1).toNatClampNeg), .int (xs (nI i + 2).toNatClampNeg), .int (xs (nI i + 3).toNatClampNeg), .int 1]) (rest := []) S hK hN hH rfl (by decide) rfl (C_X6_fails l X hI rfl _ _ _ _ _ _ _ e1) (cwV 4 hts (gV tTl m_582 m_583 m_584 m_35 m_585) rfl rfl rfl hdV_X6_fails ⟨Nat.le_of_ble_eq_true rfl, Nat.le_of_ble_eq_true rfl⟩) hl.1 rfl rfl (Nat.le_of_ble_eq_true rfl) dL_law_904 ⟨Nat.le_of_ble_eq_true rfl, Nat.le_of_ble_eq_true rfl⟩ (fun H locs hH => ?_)
    refine lv_aload_n hx hb dL_law_907 rfl (lv_at hl 2 rfl) ?_
    refine lv_aload_n hx hb dL_law_908 rfl (lv_at hl 0 rfl) ?_
    refine lv_iload_n hx hb dL_law_909 rfl (lv_at hl 3 rfl) ?_
    refine lv_iconst (v := 1) hx hb dL_law_910 (by decide) ?_
    refine lv_iadd hx hb dL_law_911 ?_
    refine va_sld (A := nA s) hx hb hX hbl hbA hH.2.1 (vin 1 (by decide) hi hL) dL_law_912 ?_
    refine lv_aload_n hx hb dL_law_913 rfl (lv_at hl 0 rfl) ?_
    refine lv_iload_n hx hb dL_law_914 rfl (lv_at hl 3 rfl) ?_
    refine lv_iconst (v := 2) hx hb dL_law_915 (by decide) ?_
    refine lv_iadd hx hb dL_law_916 ?_
    refine va_sld (A := nA s) hx hb hX hbl hbA hH.2.1 (vin 2 (by decide) hi hL) dL_law_917 ?_
    refine lv_aload_n hx hb dL_law_918 rfl (lv_at hl 0 rfl) ?_
    refine lv_iload_n hx hb dL_law_919 rfl (lv_at hl 3 rfl) ?_
    refine lv_iconst (v := 3) hx hb dL_law_920 (by decide) ?_
    refine lv_iadd hx hb dL_law_921 ?_
    refine va_sld (A := nA s) hx hb hX hbl hbA hH.2.1 (vin 3 (by decide) hi hL) dL_law_922 ?_
    refine lv_aload_n hx hb dL_law_923 rfl (lv_at hl 0 rfl) ?_
    refine lv_iload_n hx hb dL_law_924 rfl (lv_at hl 3 rfl) ?_
    refine lv_iconst (v := 4) hx hb dL_law_925 (by decide) ?_
    refine lv_iadd hx hb dL_law_926 ?_
    refine va_sld (A := nA s) hx hb hX hbl hbA hH.2.1 (vin 4 (by decide) hi hL) dL_law_927 ?_
    refine lv_if_eq (tgt := 935) hx hb dL_law_928 (by decide) (fun c1 => absurd c1 zq) (fun _ => ?_)
    refine lv_iconst (v := 1) hx hb dL_law_931 (by decide) ?_
    refine lv_goto (tgt := 936) hx hb dL_law_932 (by decide) ?_
    refine wk_callVi (ci := 6) (b := 41) (As := [.int (xs (nI i + 1).toNatClampNeg), .int (xs (nI i + 2).toNatClampNeg), .int (xs (nI i + 3).toNatClampNeg), .int 1]) (rest := [.int r]) S hK hN hH rfl (by decide) rfl (C_X7_fails l X hI rfl _ _ _ _ _ _ _ e2) (cwV 4 hts (gV tTl m_961 m_962 m_963 m_41 m_964) rfl rfl rfl hdV_X7_fails ⟨Nat.le_of_ble_eq_true rfl, Nat.le_of_ble_eq_true rfl⟩) hl.1 rfl rfl (Nat.le_of_ble_eq_true rfl) dL_law_936 ⟨Nat.le_of_ble_eq_true rfl, Nat.le_of_ble_eq_true rfl⟩ (fun H locs hH => ?_)
    refine lv_icmp_eq (tgt := 1067) hx hb dL_law_939 (by decide) (fun _ => ?_) (fun c1 => absurd rfl c1)
    exact nx H locs ls h2 hl hH hR2
set_option maxHeartbeats 4000000 in
set_option maxRecDepth 100000 in
theorem Lc_24 {p : Program} {l : Launch} {e : Env} {s : State} {m : MethodId} {below : List Frame} {meth : Method} {c : Code} {b L : Nat} {xs : Nat → Int32} {X : Cx} {fa : Nat} (G : LX p s m c b L xs X fa) {i : Nat} (hi : i + 5 ≤ L) (nx : LB p l e s m below meth c b X i 1067) : LB p l e s m below meth c b X i 944 := by
  obtain ⟨S, hK, hN, hX, hbl, hF, hL⟩ := G
  obtain ⟨hx, hb, hml, hown, hts⟩ := id S
  have hbA : ¬ nA s b := fun z => by have z : s.heap.size ≤ b := z; omega
  intro H locs ls h hl hH hR
  have hI := hH.2.2.1
  refine lv_aload_n hx hb dL_law_944 rfl (lv_at hl 1 rfl) ?_
  refine lv_aload_n hx hb dL_law_945 rfl (lv_at hl 0 rfl) ?_
  refine lv_iload_n hx hb dL_law_946 rfl (lv_at hl 3 rfl) ?_
  refine lv_iconst (v := 1) hx hb dL_law_947 (by decide) ?_
  refine lv_iadd hx hb dL_law_948 ?_
  refine va_sld (A := nA s) hx hb hX hbl hbA hH.2.1 (vin 1 (by decide) hi hL) dL_law_949 ?_
  refine lv_i2l hx hb dL_law_950 rfl ?_
  refine lv_bipush (v := 32) hx hb dL_law_951 (by decide) ?_
  refine lv_lshl (v := (((xs (nI i + 1).toNatClampNeg)).toInt64) <<< ((32 : Int32).toInt64 &&& 63)) hx hb dL_law_953 rfl ?_
  refine lv_aload_n hx hb dL_law_954 rfl (lv_at hl 0 rfl) ?_
  refine lv_iload_n hx hb dL_law_955 rfl (lv_at hl 3 rfl) ?_
  refine lv_iconst (v := 2) hx hb dL_law_956 (by decide) ?_
  refine lv_iadd hx hb dL_law_957 ?_
  refine va_sld (A := nA s) hx hb hX hbl hbA hH.2.1 (vin 2 (by decide) hi hL) dL_law_958 ?_
  refine lv_i2l hx hb dL_law_959 rfl ?_
  refine lv_ldc2 hx hb hown (hts _ (tT_tbl m_988)) dL_law_960 ?_
  refine lv_land hx hb dL_law_963 ?_
  refine lv_lor hx hb dL_law_964 ?_
  obtain ⟨r, h1, h2, e1, e2, hR2⟩ := st_seed hR ((((((xs (nI i + 1).toNatClampNeg)).toInt64) <<< ((32 : Int32).toInt64 &&& 63)) ||| (((xs (nI i + 2).toNatClampNeg)).toInt64 &&& (4294967295 : Int64))))
  refine wk_callVl (ci := 5) (b := 0) (As := [.long (((((xs (nI i + 1).toNatClampNeg)).toInt64) <<< ((32 : Int32).toInt64 &&& 63)) ||| (((xs (nI i + 2).toNatClampNeg)).toInt64 &&& (4294967295 : Int64)))]) (rest := []) S hK hN hH rfl (by decide) rfl (C_X6_seed l X hI rfl _ _ _ _ e1) (cwV 1 hts (gV tTl m_590 m_591 m_592 m_35 m_593) rfl rfl rfl hdV_X6_seed ⟨Nat.le_of_ble_eq_true rfl, Nat.le_of_ble_eq_true rfl⟩) hl.1 rfl rfl (Nat.le_of_ble_eq_true rfl) dL_law_965 ⟨Nat.le_of_ble_eq_true rfl, Nat.le_of_ble_eq_true rfl⟩ (fun H locs hH => ?_)
  refine lv_aload_n hx hb dL_law_968 rfl (lv_at hl 2 rfl) ?_
  refine lv_aload_n hx hb dL_law_969 rfl (lv_at hl 0 rfl) ?_
  refine lv_iload_n hx hb dL_law_970 rfl (lv_at hl 3 rfl) ?_
  refine lv_iconst (v := 1) hx hb dL_law_971 (by decide) ?_
  refine lv_iadd hx hb dL_law_972 ?_
  refine va_sld (A := nA s) hx hb hX hbl hbA hH.2.1 (vin 1 (by decide) hi hL) dL_law_973 ?_
  refine lv_i2l hx hb dL_law_974 rfl ?_
  refine lv_bipush (v := 32) hx hb dL_law_975 (by decide) ?_
  refine lv_lshl (v := (((xs (nI i + 1).toNatClampNeg)).toInt64) <<< ((32 : Int32).toInt64 &&& 63)) hx hb dL_law_977 rfl ?_
  refine lv_aload_n hx hb dL_law_978 rfl (lv_at hl 0 rfl) ?_
  refine lv_iload_n hx hb dL_law_979 rfl (lv_at hl 3 rfl) ?_
  refine lv_iconst (v := 2) hx hb dL_law_980 (by decide) ?_
  refine lv_iadd hx hb dL_law_981 ?_
  refine va_sld (A := nA s) hx hb hX hbl hbA hH.2.1 (vin 2 (by decide) hi hL) dL_law_982 ?_
  refine lv_i2l hx hb dL_law_983 rfl ?_
  refine lv_ldc2 hx hb hown (hts _ (tT_tbl m_988)) dL_law_984 ?_
  refine lv_land hx hb dL_law_987 ?_
  refine lv_lor hx hb dL_law_988 ?_
  refine wk_callVl (ci := 6) (b := 41) (As := [.long (((((xs (nI i + 1).toNatClampNeg)).toInt64) <<< ((32 : Int32).toInt64 &&& 63)) ||| (((xs (nI i + 2).toNatClampNeg)).toInt64 &&& (4294967295 : Int64)))]) (rest := [.long r]) S hK hN hH rfl (by decide) rfl (C_X7_seed l X hI rfl _ _ _ _ e2) (cwV 1 hts (gV tTl m_969 m_970 m_971 m_41 m_972) rfl rfl rfl hdV_X7_seed ⟨Nat.le_of_ble_eq_true rfl, Nat.le_of_ble_eq_true rfl⟩) hl.1 rfl rfl (Nat.le_of_ble_eq_true rfl) dL_law_989 ⟨Nat.le_of_ble_eq_true rfl, Nat.le_of_ble_eq_true rfl⟩ (fun H locs hH => ?_)
  refine W.lcmp hx hb dL_law_992 ?_
  refine lv_if_eq (tgt := 1067) hx hb dL_law_993 (by decide) (fun _ => ?_) (fun c1 => absurd (lg_same r) c1)
  exact nx H locs ls h2 hl hH hR2
set_option maxHeartbeats 4000000 in
set_option maxRecDepth 100000 in
theorem Lc_25 {p : Program} {l : Launch} {e : Env} {s : State} {m : MethodId} {below : List Frame} {meth : Method} {c : Code} {b L : Nat} {xs : Nat → Int32} {X : Cx} {fa : Nat} (G : LX p s m c b L xs X fa) {i : Nat} (hi : i + 5 ≤ L) (nx : LB p l e s m below meth c b X i 1067) : LB p l e s m below meth c b X i 998 := by
  obtain ⟨S, hK, hN, hX, hbl, hF, hL⟩ := G
  obtain ⟨hx, hb, hml, hown, hts⟩ := id S
  have hbA : ¬ nA s b := fun z => by have z : s.heap.size ≤ b := z; omega
  intro H locs ls h hl hH hR
  have hI := hH.2.2.1
  refine lv_aload_n hx hb dL_law_998 rfl (lv_at hl 1 rfl) ?_
  refine lv_aload_n hx hb dL_law_999 rfl (lv_at hl 0 rfl) ?_
  refine lv_iload_n hx hb dL_law_1000 rfl (lv_at hl 3 rfl) ?_
  refine lv_iconst (v := 1) hx hb dL_law_1001 (by decide) ?_
  refine lv_iadd hx hb dL_law_1002 ?_
  refine va_sld (A := nA s) hx hb hX hbl hbA hH.2.1 (vin 1 (by decide) hi hL) dL_law_1003 ?_
  obtain ⟨r, h1, h2, e1, e2, hR2⟩ := st_drawn hR ((xs (nI i + 1).toNatClampNeg))
  refine wk_callVi (ci := 5) (b := 0) (As := [.int (xs (nI i + 1).toNatClampNeg)]) (rest := []) S hK hN hH rfl (by decide) rfl (C_X6_drawn l X hI rfl _ _ _ _ e1) (cwV 1 hts (gV tTl m_594 m_595 m_596 m_35 m_597) rfl rfl rfl hdV_X6_drawn ⟨Nat.le_of_ble_eq_true rfl, Nat.le_of_ble_eq_true rfl⟩) hl.1 rfl rfl (Nat.le_of_ble_eq_true rfl) dL_law_1004 ⟨Nat.le_of_ble_eq_true rfl, Nat.le_of_ble_eq_true rfl⟩ (fun H locs hH => ?_)
  refine lv_aload_n hx hb dL_law_1007 rfl (lv_at hl 2 rfl) ?_
  refine lv_aload_n hx hb dL_law_1008 rfl (lv_at hl 0 rfl) ?_
  refine lv_iload_n hx hb dL_law_1009 rfl (lv_at hl 3 rfl) ?_
  refine lv_iconst (v := 1) hx hb dL_law_1010 (by decide) ?_
  refine lv_iadd hx hb dL_law_1011 ?_
  refine va_sld (A := nA s) hx hb hX hbl hbA hH.2.1 (vin 1 (by decide) hi hL) dL_law_1012 ?_
  refine wk_callVi (ci := 6) (b := 41) (As := [.int (xs (nI i + 1).toNatClampNeg)]) (rest := [.int r]) S hK hN hH rfl (by decide) rfl (C_X7_drawn l X hI rfl _ _ _ _ e2) (cwV 1 hts (gV tTl m_973 m_974 m_975 m_41 m_976) rfl rfl rfl hdV_X7_drawn ⟨Nat.le_of_ble_eq_true rfl, Nat.le_of_ble_eq_true rfl⟩) hl.1 rfl rfl (Nat.le_of_ble_eq_true rfl) dL_law_1013 ⟨Nat.le_of_ble_eq_true rfl, Nat.le_of_ble_eq_true rfl⟩ (fun H locs hH => ?_)
  refine lv_icmp_eq (tgt := 1067) hx hb dL_law_1016 (by decide) (fun _ => ?_) (fun c1 => absurd rfl c1)
  exact nx H locs ls h2 hl hH hR2
set_option maxHeartbeats 4000000 in
set_option maxRecDepth 100000 in
theorem Lc_26 {p : Program} {l : Launch} {e : Env} {s : State} {m : MethodId} {below : List Frame} {meth : Method} {c : Code} {b L : Nat} {xs : Nat → Int32} {X : Cx} {fa : Nat} (G : LX p s m c b L xs X fa) {i : Nat} (hi : i + 5 ≤ L) (nx : LB p l e s m below meth c b X i 1067) : LB p l e s m below meth c b X i 1021 := by
  obtain ⟨S, hK, hN, hX, hbl, hF, hL⟩ := G
  obtain ⟨hx, hb, hml, hown, hts⟩ := id S
  have hbA : ¬ nA s b := fun z => by have z : s.heap.size ≤ b := z; omega
  intro H locs ls h hl hH hR
  have hI := hH.2.2.1
  refine lv_aload_n hx hb dL_law_1021 rfl (lv_at hl 1 rfl) ?_
  refine lv_aload_n hx hb dL_law_1022 rfl (lv_at hl 0 rfl) ?_
  refine lv_iload_n hx hb dL_law_1023 rfl (lv_at hl 3 rfl) ?_
  refine lv_iconst (v := 1) hx hb dL_law_1024 (by decide) ?_
  refine lv_iadd hx hb dL_law_1025 ?_
  refine va_sld (A := nA s) hx hb hX hbl hbA hH.2.1 (vin 1 (by decide) hi hL) dL_law_1026 ?_
  obtain ⟨r, h1, h2, e1, e2, hR2⟩ := st_keep hR ((xs (nI i + 1).toNatClampNeg))
  refine wk_callVi (ci := 5) (b := 0) (As := [.int (xs (nI i + 1).toNatClampNeg)]) (rest := []) S hK hN hH rfl (by decide) rfl (C_X6_keep l X hI rfl _ _ _ _ e1) (cwV 1 hts (gV tTl m_603 m_604 m_605 m_35 m_606) rfl rfl rfl hdV_X6_keep ⟨Nat.le_of_ble_eq_true rfl, Nat.le_of_ble_eq_true rfl⟩) hl.1 rfl rfl (Nat.le_of_ble_eq_true rfl) dL_law_1027 ⟨Nat.le_of_ble_eq_true rfl, Nat.le_of_ble_eq_true rfl⟩ (fun H locs hH => ?_)
  refine lv_aload_n hx hb dL_law_1030 rfl (lv_at hl 2 rfl) ?_
  refine lv_aload_n hx hb dL_law_1031 rfl (lv_at hl 0 rfl) ?_
  refine lv_iload_n hx hb dL_law_1032 rfl (lv_at hl 3 rfl) ?_
  refine lv_iconst (v := 1) hx hb dL_law_1033 (by decide) ?_
  refine lv_iadd hx hb dL_law_1034 ?_
  refine va_sld (A := nA s) hx hb hX hbl hbA hH.2.1 (vin 1 (by decide) hi hL) dL_law_1035 ?_
  refine wk_callVi (ci := 6) (b := 41) (As := [.int (xs (nI i + 1).toNatClampNeg)]) (rest := [.int r]) S hK hN hH rfl (by decide) rfl (C_X7_keep l X hI rfl _ _ _ _ e2) (cwV 1 hts (gV tTl m_980 m_981 m_982 m_41 m_983) rfl rfl rfl hdV_X7_keep ⟨Nat.le_of_ble_eq_true rfl, Nat.le_of_ble_eq_true rfl⟩) hl.1 rfl rfl (Nat.le_of_ble_eq_true rfl) dL_law_1036 ⟨Nat.le_of_ble_eq_true rfl, Nat.le_of_ble_eq_true rfl⟩ (fun H locs hH => ?_)
  refine lv_icmp_eq (tgt := 1067) hx hb dL_law_1039 (by decide) (fun _ => ?_) (fun c1 => absurd rfl c1)
  exact nx H locs ls h2 hl hH hR2
set_option maxHeartbeats 4000000 in
set_option maxRecDepth 100000 in
theorem Lc_27 {p : Program} {l : Launch} {e : Env} {s : State} {m : MethodId} {below : List Frame} {meth : Method} {c : Code} {b L : Nat} {xs : Nat → Int32} {X : Cx} {fa : Nat} (G : LX p s m c b L xs X fa) {i : Nat} (hi : i + 5 ≤ L) (nx : LB p l e s m below meth c b X i 1067) : LB p l e s m below meth c b X i 1044 := by
  obtain ⟨S, hK, hN, hX, hbl, hF, hL⟩ := G
  obtain ⟨hx, hb, hml, hown, hts⟩ := id S
  have hbA : ¬ nA s b := fun z => by have z : s.heap.size ≤ b := z; omega
  intro H locs ls h hl hH hR
  have hI := hH.2.2.1
  refine lv_aload_n hx hb dL_law_1044 rfl (lv_at hl 1 rfl) ?_
  refine lv_aload_n hx hb dL_law_1045 rfl (lv_at hl 0 rfl) ?_
  refine lv_iload_n hx hb dL_law_1046 rfl (lv_at hl 3 rfl) ?_
  refine lv_iconst (v := 1) hx hb dL_law_1047 (by decide) ?_
  refine lv_iadd hx hb dL_law_1048 ?_
  refine va_sld (A := nA s) hx hb hX hbl hbA hH.2.1 (vin 1 (by decide) hi hL) dL_law_1049 ?_
  obtain ⟨r, h1, h2, e1, e2, hR2⟩ := st_again hR ((xs (nI i + 1).toNatClampNeg))
  refine wk_callVi (ci := 5) (b := 0) (As := [.int (xs (nI i + 1).toNatClampNeg)]) (rest := []) S hK hN hH rfl (by decide) rfl (C_X6_again l X hI rfl _ _ _ _ e1) (cwV 1 hts (gV tTl m_610 m_611 m_612 m_35 m_613) rfl rfl rfl hdV_X6_again ⟨Nat.le_of_ble_eq_true rfl, Nat.le_of_ble_eq_true rfl⟩) hl.1 rfl rfl (Nat.le_of_ble_eq_true rfl) dL_law_1050 ⟨Nat.le_of_ble_eq_true rfl, Nat.le_of_ble_eq_true rfl⟩ (fun H locs hH => ?_)
  refine lv_aload_n hx hb dL_law_1053 rfl (lv_at hl 2 rfl) ?_
  refine lv_aload_n hx hb dL_law_1054 rfl (lv_at hl 0 rfl) ?_
  refine lv_iload_n hx hb dL_law_1055 rfl (lv_at hl 3 rfl) ?_
  refine lv_iconst (v := 1) hx hb dL_law_1056 (by decide) ?_
  refine lv_iadd hx hb dL_law_1057 ?_
  refine va_sld (A := nA s) hx hb hX hbl hbA hH.2.1 (vin 1 (by decide) hi hL) dL_law_1058 ?_
  refine wk_callVi (ci := 6) (b := 41) (As := [.int (xs (nI i + 1).toNatClampNeg)]) (rest := [.int r]) S hK hN hH rfl (by decide) rfl (C_X7_again l X hI rfl _ _ _ _ e2) (cwV 1 hts (gV tTl m_984 m_985 m_986 m_41 m_987) rfl rfl rfl hdV_X7_again ⟨Nat.le_of_ble_eq_true rfl, Nat.le_of_ble_eq_true rfl⟩) hl.1 rfl rfl (Nat.le_of_ble_eq_true rfl) dL_law_1059 ⟨Nat.le_of_ble_eq_true rfl, Nat.le_of_ble_eq_true rfl⟩ (fun H locs hH => ?_)
  refine lv_icmp_eq (tgt := 1067) hx hb dL_law_1062 (by decide) (fun _ => ?_) (fun c1 => absurd rfl c1)
  exact nx H locs ls h2 hl hH hR2
