def FU : Nat := 1000
def fct : Nat → Int32 := fun j => ([1, 1, 2, 6, 24] : List Int32).getD j 0
theorem tr_of {c k t : Nat} (hc : c < 200) (h : ∀ i, i < 59 → tY i = c → tY (rF i k) = t) {i : Nat} (hi : tY i = c) : tY (rF i k) = t := h i (tY_lt hi hc) hi
theorem j_X0 {y : MethodName} {cc : ByteArray} {n : Nat} {r : Option FieldType} : ∀ w ∈ wsX00, w ∈ wU y cc n r := fun w q => wU_in w (i_X0 w q)
theorem hq_0_0 : 0 < 100 ∧ nF 0 = 6 ∧ 0 < 6 ∧ fK 0 0 = 2 := by decide
theorem tr_0_0 {i : Nat} (h : tY i = 0) : tY (rF i 0) = 100 := tr_of (by decide) (by decide +kernel) h
theorem hq_0_1 : 0 < 100 ∧ nF 0 = 6 ∧ 1 < 6 ∧ fK 0 1 = 2 := by decide
theorem tr_0_1 {i : Nat} (h : tY i = 0) : tY (rF i 1) = 100 := tr_of (by decide) (by decide +kernel) h
theorem hq_0_2 : 0 < 100 ∧ nF 0 = 6 ∧ 2 < 6 ∧ fK 0 2 = 2 := by decide
theorem tr_0_2 {i : Nat} (h : tY i = 0) : tY (rF i 2) = 100 := tr_of (by decide) (by decide +kernel) h
theorem hq_0_3 : 0 < 100 ∧ nF 0 = 6 ∧ 3 < 6 ∧ fK 0 3 = 2 := by decide
theorem tr_0_3 {i : Nat} (h : tY i = 0) : tY (rF i 3) = 100 := tr_of (by decide) (by decide +kernel) h
theorem hq_0_4 : 0 < 100 ∧ nF 0 = 6 ∧ 4 < 6 ∧ fK 0 4 = 0 := by decide
theorem hd_0_4 : parseFieldDescriptor (TX0 4).2.2.1 = some .int := by decide +kernel
theorem hq_0_5 : 0 < 100 ∧ nF 0 = 6 ∧ 5 < 6 ∧ fK 0 5 = 0 := by decide
theorem hd_0_5 : parseFieldDescriptor (TX0 5).2.2.1 = some .int := by decide +kernel
theorem j_X1 {y : MethodName} {cc : ByteArray} {n : Nat} {r : Option FieldType} : ∀ w ∈ wsX10, w ∈ wU y cc n r := fun w q => wU_in w (i_X1 w q)
theorem hq_1_0 : 1 < 100 ∧ nF 1 = 5 ∧ 0 < 5 ∧ fK 1 0 = 2 := by decide
theorem tr_1_0 {i : Nat} (h : tY i = 1) : tY (rF i 0) = 100 := tr_of (by decide) (by decide +kernel) h
theorem hq_1_1 : 1 < 100 ∧ nF 1 = 5 ∧ 1 < 5 ∧ fK 1 1 = 2 := by decide
theorem tr_1_1 {i : Nat} (h : tY i = 1) : tY (rF i 1) = 100 := tr_of (by decide) (by decide +kernel) h
theorem hq_1_2 : 1 < 100 ∧ nF 1 = 5 ∧ 2 < 5 ∧ fK 1 2 = 2 := by decide
theorem tr_1_2 {i : Nat} (h : tY i = 1) : tY (rF i 2) = 100 := tr_of (by decide) (by decide +kernel) h
theorem hq_1_3 : 1 < 100 ∧ nF 1 = 5 ∧ 3 < 5 ∧ fK 1 3 = 2 := by decide
theorem tr_1_3 {i : Nat} (h : tY i = 1) : tY (rF i 3) = 101 := tr_of (by decide) (by decide +kernel) h
theorem hq_1_4 : 1 < 100 ∧ nF 1 = 5 ∧ 4 < 5 ∧ fK 1 4 = 0 := by decide
theorem hd_1_4 : parseFieldDescriptor (TX1 4).2.2.1 = some .int := by decide +kernel
theorem j_X2 {y : MethodName} {cc : ByteArray} {n : Nat} {r : Option FieldType} : ∀ w ∈ wsX20, w ∈ wU y cc n r := fun w q => wU_in w (i_X2 w q)
theorem hq_2_0 : 2 < 100 ∧ nF 2 = 4 ∧ 0 < 4 ∧ fK 2 0 = 2 := by decide
theorem tr_2_0 {i : Nat} (h : tY i = 2) : tY (rF i 0) = 100 := tr_of (by decide) (by decide +kernel) h
theorem hq_2_1 : 2 < 100 ∧ nF 2 = 4 ∧ 1 < 4 ∧ fK 2 1 = 2 := by decide
theorem tr_2_1 {i : Nat} (h : tY i = 2) : tY (rF i 1) = 100 := tr_of (by decide) (by decide +kernel) h
theorem hq_2_2 : 2 < 100 ∧ nF 2 = 4 ∧ 2 < 4 ∧ fK 2 2 = 0 := by decide
theorem hd_2_2 : parseFieldDescriptor (TX2 2).2.2.1 = some .int := by decide +kernel
theorem hq_2_3 : 2 < 100 ∧ nF 2 = 4 ∧ 3 < 4 ∧ fK 2 3 = 0 := by decide
theorem hd_2_3 : parseFieldDescriptor (TX2 3).2.2.1 = some .int := by decide +kernel
theorem j_X3 {y : MethodName} {cc : ByteArray} {n : Nat} {r : Option FieldType} : ∀ w ∈ wsX30, w ∈ wU y cc n r := fun w q => wU_in w (i_X3 w q)
theorem hq_3_0 : 3 < 100 ∧ nF 3 = 13 ∧ 0 < 13 ∧ fK 3 0 = 2 := by decide
theorem tr_3_0 {i : Nat} (h : tY i = 3) : tY (rF i 0) = 100 := tr_of (by decide) (by decide +kernel) h
theorem hq_3_1 : 3 < 100 ∧ nF 3 = 13 ∧ 1 < 13 ∧ fK 3 1 = 0 := by decide
theorem hd_3_1 : parseFieldDescriptor (TX3 1).2.2.1 = some .int := by decide +kernel
theorem hq_3_2 : 3 < 100 ∧ nF 3 = 13 ∧ 2 < 13 ∧ fK 3 2 = 2 := by decide
theorem tr_3_2 {i : Nat} (h : tY i = 3) : tY (rF i 2) = 100 := tr_of (by decide) (by decide +kernel) h
theorem hq_3_3 : 3 < 100 ∧ nF 3 = 13 ∧ 3 < 13 ∧ fK 3 3 = 2 := by decide
theorem tr_3_3 {i : Nat} (h : tY i = 3) : tY (rF i 3) = 100 := tr_of (by decide) (by decide +kernel) h
theorem hq_3_4 : 3 < 100 ∧ nF 3 = 13 ∧ 4 < 13 ∧ fK 3 4 = 2 := by decide
theorem tr_3_4 {i : Nat} (h : tY i = 3) : tY (rF i 4) = 100 := tr_of (by decide) (by decide +kernel) h
theorem hq_3_5 : 3 < 100 ∧ nF 3 = 13 ∧ 5 < 13 ∧ fK 3 5 = 0 := by decide
theorem hd_3_5 : parseFieldDescriptor (TX3 5).2.2.1 = some .int := by decide +kernel
theorem hq_3_6 : 3 < 100 ∧ nF 3 = 13 ∧ 6 < 13 ∧ fK 3 6 = 0 := by decide
theorem hd_3_6 : parseFieldDescriptor (TX3 6).2.2.1 = some .int := by decide +kernel
theorem hq_3_7 : 3 < 100 ∧ nF 3 = 13 ∧ 7 < 13 ∧ fK 3 7 = 0 := by decide
theorem hd_3_7 : parseFieldDescriptor (TX3 7).2.2.1 = some .int := by decide +kernel
theorem hq_3_8 : 3 < 100 ∧ nF 3 = 13 ∧ 8 < 13 ∧ fK 3 8 = 0 := by decide
theorem hd_3_8 : parseFieldDescriptor (TX3 8).2.2.1 = some .int := by decide +kernel
theorem hq_3_9 : 3 < 100 ∧ nF 3 = 13 ∧ 9 < 13 ∧ fK 3 9 = 0 := by decide
theorem hd_3_9 : parseFieldDescriptor (TX3 9).2.2.1 = some .int := by decide +kernel
theorem hq_3_10 : 3 < 100 ∧ nF 3 = 13 ∧ 10 < 13 ∧ fK 3 10 = 0 := by decide
theorem hd_3_10 : parseFieldDescriptor (TX3 10).2.2.1 = some .int := by decide +kernel
theorem hq_3_11 : 3 < 100 ∧ nF 3 = 13 ∧ 11 < 13 ∧ fK 3 11 = 0 := by decide
theorem hd_3_11 : parseFieldDescriptor (TX3 11).2.2.1 = some .int := by decide +kernel
theorem hq_3_12 : 3 < 100 ∧ nF 3 = 13 ∧ 12 < 13 ∧ fK 3 12 = 0 := by decide
theorem hd_3_12 : parseFieldDescriptor (TX3 12).2.2.1 = some .int := by decide +kernel
theorem j_X4 {y : MethodName} {cc : ByteArray} {n : Nat} {r : Option FieldType} : ∀ w ∈ wsX40, w ∈ wU y cc n r := fun w q => wU_in w (i_X4 w q)
theorem hq_4_0 : 4 < 100 ∧ nF 4 = 6 ∧ 0 < 6 ∧ fK 4 0 = 2 := by decide
theorem tr_4_0 {i : Nat} (h : tY i = 4) : tY (rF i 0) = 2 := tr_of (by decide) (by decide +kernel) h
theorem hq_4_1 : 4 < 100 ∧ nF 4 = 6 ∧ 1 < 6 ∧ fK 4 1 = 2 := by decide
theorem tr_4_1 {i : Nat} (h : tY i = 4) : tY (rF i 1) = 100 := tr_of (by decide) (by decide +kernel) h
theorem hq_4_2 : 4 < 100 ∧ nF 4 = 6 ∧ 2 < 6 ∧ fK 4 2 = 2 := by decide
theorem tr_4_2 {i : Nat} (h : tY i = 4) : tY (rF i 2) = 100 := tr_of (by decide) (by decide +kernel) h
theorem hq_4_3 : 4 < 100 ∧ nF 4 = 6 ∧ 3 < 6 ∧ fK 4 3 = 2 := by decide
theorem tr_4_3 {i : Nat} (h : tY i = 4) : tY (rF i 3) = 100 := tr_of (by decide) (by decide +kernel) h
theorem hq_4_4 : 4 < 100 ∧ nF 4 = 6 ∧ 4 < 6 ∧ fK 4 4 = 2 := by decide
theorem tr_4_4 {i : Nat} (h : tY i = 4) : tY (rF i 4) = 100 := tr_of (by decide) (by decide +kernel) h
theorem hq_4_5 : 4 < 100 ∧ nF 4 = 6 ∧ 5 < 6 ∧ fK 4 5 = 0 := by decide
theorem hd_4_5 : parseFieldDescriptor (TX4 5).2.2.1 = some .int := by decide +kernel
theorem j_X6 {y : MethodName} {cc : ByteArray} {n : Nat} {r : Option FieldType} : ∀ w ∈ wsX60, w ∈ wU y cc n r := fun w q => wU_in w (i_X6 w q)
theorem hq_5_0 : 5 < 100 ∧ nF 5 = 9 ∧ 0 < 9 ∧ fK 5 0 = 2 := by decide
theorem tr_5_0 {i : Nat} (h : tY i = 5) : tY (rF i 0) = 3 := tr_of (by decide) (by decide +kernel) h
theorem hq_5_1 : 5 < 100 ∧ nF 5 = 9 ∧ 1 < 9 ∧ fK 5 1 = 2 := by decide
theorem tr_5_1 {i : Nat} (h : tY i = 5) : tY (rF i 1) = 2 := tr_of (by decide) (by decide +kernel) h
theorem hq_5_2 : 5 < 100 ∧ nF 5 = 9 ∧ 2 < 9 ∧ fK 5 2 = 2 := by decide
theorem tr_5_2 {i : Nat} (h : tY i = 5) : tY (rF i 2) = 4 := tr_of (by decide) (by decide +kernel) h
theorem hq_5_3 : 5 < 100 ∧ nF 5 = 9 ∧ 3 < 9 ∧ fK 5 3 = 2 := by decide
theorem tr_5_3 {i : Nat} (h : tY i = 5) : tY (rF i 3) = 4 := tr_of (by decide) (by decide +kernel) h
theorem hq_5_4 : 5 < 100 ∧ nF 5 = 9 ∧ 4 < 9 ∧ fK 5 4 = 2 := by decide
theorem tr_5_4 {i : Nat} (h : tY i = 5) : tY (rF i 4) = 102 := tr_of (by decide) (by decide +kernel) h
theorem hq_5_5 : 5 < 100 ∧ nF 5 = 9 ∧ 5 < 9 ∧ fK 5 5 = 2 := by decide
theorem tr_5_5 {i : Nat} (h : tY i = 5) : tY (rF i 5) = 101 := tr_of (by decide) (by decide +kernel) h
theorem hq_5_6 : 5 < 100 ∧ nF 5 = 9 ∧ 6 < 9 ∧ fK 5 6 = 2 := by decide
theorem tr_5_6 {i : Nat} (h : tY i = 5) : tY (rF i 6) = 0 := tr_of (by decide) (by decide +kernel) h
theorem hq_5_7 : 5 < 100 ∧ nF 5 = 9 ∧ 7 < 9 ∧ fK 5 7 = 2 := by decide
theorem tr_5_7 {i : Nat} (h : tY i = 5) : tY (rF i 7) = 1 := tr_of (by decide) (by decide +kernel) h
theorem hq_5_8 : 5 < 100 ∧ nF 5 = 9 ∧ 8 < 9 ∧ fK 5 8 = 1 := by decide
theorem hq_5_8l : 5 < 100 ∧ nF 5 = 9 ∧ 8 < 9 ∧ fK 5 8 = 1 ∧ ∀ j, j < nF 5 → j ≠ 8 → fK 5 j ≠ 1 := by decide
theorem hd_5_8 : parseFieldDescriptor (TX6 8).2.2.1 = some .long := by decide +kernel
theorem j_X7 {y : MethodName} {cc : ByteArray} {n : Nat} {r : Option FieldType} : ∀ w ∈ wsX70, w ∈ wU y cc n r := fun w q => wU_in w (i_X7 w q)
theorem hq_6_0 : 6 < 100 ∧ nF 6 = 30 ∧ 0 < 30 ∧ fK 6 0 = 2 := by decide
theorem tr_6_0 {i : Nat} (h : tY i = 6) : tY (rF i 0) = 100 := tr_of (by decide) (by decide +kernel) h
theorem hq_6_1 : 6 < 100 ∧ nF 6 = 30 ∧ 1 < 30 ∧ fK 6 1 = 0 := by decide
theorem hd_6_1 : parseFieldDescriptor (TX7 1).2.2.1 = some .int := by decide +kernel
theorem hq_6_2 : 6 < 100 ∧ nF 6 = 30 ∧ 2 < 30 ∧ fK 6 2 = 2 := by decide
theorem tr_6_2 {i : Nat} (h : tY i = 6) : tY (rF i 2) = 100 := tr_of (by decide) (by decide +kernel) h
theorem hq_6_3 : 6 < 100 ∧ nF 6 = 30 ∧ 3 < 30 ∧ fK 6 3 = 2 := by decide
theorem tr_6_3 {i : Nat} (h : tY i = 6) : tY (rF i 3) = 100 := tr_of (by decide) (by decide +kernel) h
theorem hq_6_4 : 6 < 100 ∧ nF 6 = 30 ∧ 4 < 30 ∧ fK 6 4 = 2 := by decide
theorem tr_6_4 {i : Nat} (h : tY i = 6) : tY (rF i 4) = 100 := tr_of (by decide) (by decide +kernel) h
theorem hq_6_5 : 6 < 100 ∧ nF 6 = 30 ∧ 5 < 30 ∧ fK 6 5 = 0 := by decide
theorem hd_6_5 : parseFieldDescriptor (TX7 5).2.2.1 = some .int := by decide +kernel
theorem hq_6_6 : 6 < 100 ∧ nF 6 = 30 ∧ 6 < 30 ∧ fK 6 6 = 0 := by decide
theorem hd_6_6 : parseFieldDescriptor (TX7 6).2.2.1 = some .int := by decide +kernel
theorem hq_6_7 : 6 < 100 ∧ nF 6 = 30 ∧ 7 < 30 ∧ fK 6 7 = 2 := by decide
theorem tr_6_7 {i : Nat} (h : tY i = 6) : tY (rF i 7) = 100 := tr_of (by decide) (by decide +kernel) h
theorem hq_6_8 : 6 < 100 ∧ nF 6 = 30 ∧ 8 < 30 ∧ fK 6 8 = 2 := by decide
theorem tr_6_8 {i : Nat} (h : tY i = 6) : tY (rF i 8) = 101 := tr_of (by decide) (by decide +kernel) h
theorem hq_6_9 : 6 < 100 ∧ nF 6 = 30 ∧ 9 < 30 ∧ fK 6 9 = 2 := by decide
theorem tr_6_9 {i : Nat} (h : tY i = 6) : tY (rF i 9) = 100 := tr_of (by decide) (by decide +kernel) h
theorem hq_6_10 : 6 < 100 ∧ nF 6 = 30 ∧ 10 < 30 ∧ fK 6 10 = 2 := by decide
theorem tr_6_10 {i : Nat} (h : tY i = 6) : tY (rF i 10) = 100 := tr_of (by decide) (by decide +kernel) h
theorem hq_6_11 : 6 < 100 ∧ nF 6 = 30 ∧ 11 < 30 ∧ fK 6 11 = 0 := by decide
theorem hd_6_11 : parseFieldDescriptor (TX7 11).2.2.1 = some .int := by decide +kernel
theorem hq_6_12 : 6 < 100 ∧ nF 6 = 30 ∧ 12 < 30 ∧ fK 6 12 = 0 := by decide
theorem hd_6_12 : parseFieldDescriptor (TX7 12).2.2.1 = some .int := by decide +kernel
theorem hq_6_13 : 6 < 100 ∧ nF 6 = 30 ∧ 13 < 30 ∧ fK 6 13 = 0 := by decide
theorem hd_6_13 : parseFieldDescriptor (TX7 13).2.2.1 = some .int := by decide +kernel
theorem hq_6_14 : 6 < 100 ∧ nF 6 = 30 ∧ 14 < 30 ∧ fK 6 14 = 2 := by decide
theorem tr_6_14 {i : Nat} (h : tY i = 6) : tY (rF i 14) = 100 := tr_of (by decide) (by decide +kernel) h
theorem hq_6_15 : 6 < 100 ∧ nF 6 = 30 ∧ 15 < 30 ∧ fK 6 15 = 2 := by decide
theorem tr_6_15 {i : Nat} (h : tY i = 6) : tY (rF i 15) = 100 := tr_of (by decide) (by decide +kernel) h
theorem hq_6_16 : 6 < 100 ∧ nF 6 = 30 ∧ 16 < 30 ∧ fK 6 16 = 2 := by decide
theorem tr_6_16 {i : Nat} (h : tY i = 6) : tY (rF i 16) = 100 := tr_of (by decide) (by decide +kernel) h
theorem hq_6_17 : 6 < 100 ∧ nF 6 = 30 ∧ 17 < 30 ∧ fK 6 17 = 0 := by decide
theorem hd_6_17 : parseFieldDescriptor (TX7 17).2.2.1 = some .int := by decide +kernel
theorem hq_6_18 : 6 < 100 ∧ nF 6 = 30 ∧ 18 < 30 ∧ fK 6 18 = 0 := by decide
theorem hd_6_18 : parseFieldDescriptor (TX7 18).2.2.1 = some .int := by decide +kernel
theorem hq_6_19 : 6 < 100 ∧ nF 6 = 30 ∧ 19 < 30 ∧ fK 6 19 = 0 := by decide
theorem hd_6_19 : parseFieldDescriptor (TX7 19).2.2.1 = some .int := by decide +kernel
theorem hq_6_20 : 6 < 100 ∧ nF 6 = 30 ∧ 20 < 30 ∧ fK 6 20 = 0 := by decide
theorem hd_6_20 : parseFieldDescriptor (TX7 20).2.2.1 = some .int := by decide +kernel
theorem hq_6_21 : 6 < 100 ∧ nF 6 = 30 ∧ 21 < 30 ∧ fK 6 21 = 0 := by decide
theorem hd_6_21 : parseFieldDescriptor (TX7 21).2.2.1 = some .int := by decide +kernel
theorem hq_6_22 : 6 < 100 ∧ nF 6 = 30 ∧ 22 < 30 ∧ fK 6 22 = 2 := by decide
theorem tr_6_22 {i : Nat} (h : tY i = 6) : tY (rF i 22) = 100 := tr_of (by decide) (by decide +kernel) h
theorem hq_6_23 : 6 < 100 ∧ nF 6 = 30 ∧ 23 < 30 ∧ fK 6 23 = 2 := by decide
theorem tr_6_23 {i : Nat} (h : tY i = 6) : tY (rF i 23) = 100 := tr_of (by decide) (by decide +kernel) h
theorem hq_6_24 : 6 < 100 ∧ nF 6 = 30 ∧ 24 < 30 ∧ fK 6 24 = 2 := by decide
theorem tr_6_24 {i : Nat} (h : tY i = 6) : tY (rF i 24) = 100 := tr_of (by decide) (by decide +kernel) h
theorem hq_6_25 : 6 < 100 ∧ nF 6 = 30 ∧ 25 < 30 ∧ fK 6 25 = 2 := by decide
theorem tr_6_25 {i : Nat} (h : tY i = 6) : tY (rF i 25) = 100 := tr_of (by decide) (by decide +kernel) h
theorem hq_6_26 : 6 < 100 ∧ nF 6 = 30 ∧ 26 < 30 ∧ fK 6 26 = 0 := by decide
theorem hd_6_26 : parseFieldDescriptor (TX7 26).2.2.1 = some .int := by decide +kernel
theorem hq_6_27 : 6 < 100 ∧ nF 6 = 30 ∧ 27 < 30 ∧ fK 6 27 = 1 := by decide
theorem hq_6_27l : 6 < 100 ∧ nF 6 = 30 ∧ 27 < 30 ∧ fK 6 27 = 1 ∧ ∀ j, j < nF 6 → j ≠ 27 → fK 6 j ≠ 1 := by decide
theorem hd_6_27 : parseFieldDescriptor (TX7 27).2.2.1 = some .long := by decide +kernel
theorem hq_6_28 : 6 < 100 ∧ nF 6 = 30 ∧ 28 < 30 ∧ fK 6 28 = 2 := by decide
theorem tr_6_28 {i : Nat} (h : tY i = 6) : tY (rF i 28) = 100 := tr_of (by decide) (by decide +kernel) h
theorem hq_6_29 : 6 < 100 ∧ nF 6 = 30 ∧ 29 < 30 ∧ fK 6 29 = 2 := by decide
theorem tr_6_29 {i : Nat} (h : tY i = 6) : tY (rF i 29) = 100 := tr_of (by decide) (by decide +kernel) h
theorem tr_kept {i : Nat} {j : Int32} (h : tY i = 102) (hj : okI j (lN_ i) = true) : tY (rF i j.toNatClampNeg) = 4 := by
  have h29 : i = 29 := (show ∀ i, i < 59 → tY i = 102 → i = 29 by decide +kernel) i (tY_lt h (by decide)) h
  subst h29
  have h2 : j.toNatClampNeg < 2 := Nat.not_le.mp fun q => okI_in hj (Or.inr q)
  rcases (show j.toNatClampNeg = 0 ∨ j.toNatClampNeg = 1 by omega) with q | q <;> rw [q] <;> decide
theorem hdV_X0_add : yX0_add.cls = RX0 ∧ yX0_add.cls ≠ "java/lang/invoke/MethodHandle" ∧ yX0_add.cls ≠ "java/lang/invoke/VarHandle" ∧ (parseMethodDescriptor yX0_add.desc).map (fun d => d.parameters.length) = some 4 := by decide +kernel
theorem hdV_X4_exchange : yX4_exchange.cls = RX4 ∧ yX4_exchange.cls ≠ "java/lang/invoke/MethodHandle" ∧ yX4_exchange.cls ≠ "java/lang/invoke/VarHandle" ∧ (parseMethodDescriptor yX4_exchange.desc).map (fun d => d.parameters.length) = some 2 := by decide +kernel
theorem hdV_X4_putSign : yX4_putSign.cls = RX4 ∧ yX4_putSign.cls ≠ "java/lang/invoke/MethodHandle" ∧ yX4_putSign.cls ≠ "java/lang/invoke/VarHandle" ∧ (parseMethodDescriptor yX4_putSign.desc).map (fun d => d.parameters.length) = some 3 := by decide +kernel
theorem hdV_X4_putForm : yX4_putForm.cls = RX4 ∧ yX4_putForm.cls ≠ "java/lang/invoke/MethodHandle" ∧ yX4_putForm.cls ≠ "java/lang/invoke/VarHandle" ∧ (parseMethodDescriptor yX4_putForm.desc).map (fun d => d.parameters.length) = some 3 := by decide +kernel
theorem hdV_X0_takeBackLast : yX0_takeBackLast.cls = RX0 ∧ yX0_takeBackLast.cls ≠ "java/lang/invoke/MethodHandle" ∧ yX0_takeBackLast.cls ≠ "java/lang/invoke/VarHandle" ∧ (parseMethodDescriptor yX0_takeBackLast.desc).map (fun d => d.parameters.length) = some 1 := by decide +kernel
theorem hdV_X1_add : yX1_add.cls = RX1 ∧ yX1_add.cls ≠ "java/lang/invoke/MethodHandle" ∧ yX1_add.cls ≠ "java/lang/invoke/VarHandle" ∧ (parseMethodDescriptor yX1_add.desc).map (fun d => d.parameters.length) = some 4 := by decide +kernel
theorem hdV_X2_hasEnding : yX2_hasEnding.cls = RX2 ∧ yX2_hasEnding.cls ≠ "java/lang/invoke/MethodHandle" ∧ yX2_hasEnding.cls ≠ "java/lang/invoke/VarHandle" ∧ (parseMethodDescriptor yX2_hasEnding.desc).map (fun d => d.parameters.length) = some 1 := by decide +kernel
theorem hdS_X5_join : yX5_join.cls ≠ "java/lang/invoke/MethodHandle" ∧ yX5_join.cls ≠ "java/lang/invoke/VarHandle" ∧ (parseMethodDescriptor yX5_join.desc).map (fun d => d.parameters.length) = some 2 := by decide +kernel
theorem hdV_X4_signOf : yX4_signOf.cls = RX4 ∧ yX4_signOf.cls ≠ "java/lang/invoke/MethodHandle" ∧ yX4_signOf.cls ≠ "java/lang/invoke/VarHandle" ∧ (parseMethodDescriptor yX4_signOf.desc).map (fun d => d.parameters.length) = some 2 := by decide +kernel
theorem hdS_X5_fits : yX5_fits.cls ≠ "java/lang/invoke/MethodHandle" ∧ yX5_fits.cls ≠ "java/lang/invoke/VarHandle" ∧ (parseMethodDescriptor yX5_fits.desc).map (fun d => d.parameters.length) = some 2 := by decide +kernel
theorem hdV_X4_goOver : yX4_goOver.cls = RX4 ∧ yX4_goOver.cls ≠ "java/lang/invoke/MethodHandle" ∧ yX4_goOver.cls ≠ "java/lang/invoke/VarHandle" ∧ (parseMethodDescriptor yX4_goOver.desc).map (fun d => d.parameters.length) = some 2 := by decide +kernel
theorem hdV_X4_walk : yX4_walk.cls = RX4 ∧ yX4_walk.cls ≠ "java/lang/invoke/MethodHandle" ∧ yX4_walk.cls ≠ "java/lang/invoke/VarHandle" ∧ (parseMethodDescriptor yX4_walk.desc).map (fun d => d.parameters.length) = some 2 := by decide +kernel
theorem hdS_X5_lengthOf : yX5_lengthOf.cls ≠ "java/lang/invoke/MethodHandle" ∧ yX5_lengthOf.cls ≠ "java/lang/invoke/VarHandle" ∧ (parseMethodDescriptor yX5_lengthOf.desc).map (fun d => d.parameters.length) = some 1 := by decide +kernel
theorem hdS_X5_letterAt : yX5_letterAt.cls ≠ "java/lang/invoke/MethodHandle" ∧ yX5_letterAt.cls ≠ "java/lang/invoke/VarHandle" ∧ (parseMethodDescriptor yX5_letterAt.desc).map (fun d => d.parameters.length) = some 2 := by decide +kernel
theorem hdV_X1_agreeWith : yX1_agreeWith.cls = RX1 ∧ yX1_agreeWith.cls ≠ "java/lang/invoke/MethodHandle" ∧ yX1_agreeWith.cls ≠ "java/lang/invoke/VarHandle" ∧ (parseMethodDescriptor yX1_agreeWith.desc).map (fun d => d.parameters.length) = some 3 := by decide +kernel
theorem hdV_X2_takeFrom : yX2_takeFrom.cls = RX2 ∧ yX2_takeFrom.cls ≠ "java/lang/invoke/MethodHandle" ∧ yX2_takeFrom.cls ≠ "java/lang/invoke/VarHandle" ∧ (parseMethodDescriptor yX2_takeFrom.desc).map (fun d => d.parameters.length) = some 1 := by decide +kernel
theorem hdV_X2_hasRoot : yX2_hasRoot.cls = RX2 ∧ yX2_hasRoot.cls ≠ "java/lang/invoke/MethodHandle" ∧ yX2_hasRoot.cls ≠ "java/lang/invoke/VarHandle" ∧ (parseMethodDescriptor yX2_hasRoot.desc).map (fun d => d.parameters.length) = some 1 := by decide +kernel
theorem hdV_X2_hasPair : yX2_hasPair.cls = RX2 ∧ yX2_hasPair.cls ≠ "java/lang/invoke/MethodHandle" ∧ yX2_hasPair.cls ≠ "java/lang/invoke/VarHandle" ∧ (parseMethodDescriptor yX2_hasPair.desc).map (fun d => d.parameters.length) = some 2 := by decide +kernel
theorem hdV_X2_joined : yX2_joined.cls = RX2 ∧ yX2_joined.cls ≠ "java/lang/invoke/MethodHandle" ∧ yX2_joined.cls ≠ "java/lang/invoke/VarHandle" ∧ (parseMethodDescriptor yX2_joined.desc).map (fun d => d.parameters.length) = some 2 := by decide +kernel
theorem hdV_X3_append : yX3_append.cls = RX3 ∧ yX3_append.cls ≠ "java/lang/invoke/MethodHandle" ∧ yX3_append.cls ≠ "java/lang/invoke/VarHandle" ∧ (parseMethodDescriptor yX3_append.desc).map (fun d => d.parameters.length) = some 1 := by decide +kernel
theorem hdV_X3_beginReading : yX3_beginReading.cls = RX3 ∧ yX3_beginReading.cls ≠ "java/lang/invoke/MethodHandle" ∧ yX3_beginReading.cls ≠ "java/lang/invoke/VarHandle" ∧ (parseMethodDescriptor yX3_beginReading.desc).map (fun d => d.parameters.length) = some 0 := by decide +kernel
theorem hdV_X3_isOfLetters : yX3_isOfLetters.cls = RX3 ∧ yX3_isOfLetters.cls ≠ "java/lang/invoke/MethodHandle" ∧ yX3_isOfLetters.cls ≠ "java/lang/invoke/VarHandle" ∧ (parseMethodDescriptor yX3_isOfLetters.desc).map (fun d => d.parameters.length) = some 0 := by decide +kernel
theorem hdV_X3_needsMore : yX3_needsMore.cls = RX3 ∧ yX3_needsMore.cls ≠ "java/lang/invoke/MethodHandle" ∧ yX3_needsMore.cls ≠ "java/lang/invoke/VarHandle" ∧ (parseMethodDescriptor yX3_needsMore.desc).map (fun d => d.parameters.length) = some 0 := by decide +kernel
theorem hdS_X3_isLetter : yX3_isLetter.cls ≠ "java/lang/invoke/MethodHandle" ∧ yX3_isLetter.cls ≠ "java/lang/invoke/VarHandle" ∧ (parseMethodDescriptor yX3_isLetter.desc).map (fun d => d.parameters.length) = some 1 := by decide +kernel
theorem hdS_X3_signMeant : yX3_signMeant.cls ≠ "java/lang/invoke/MethodHandle" ∧ yX3_signMeant.cls ≠ "java/lang/invoke/VarHandle" ∧ (parseMethodDescriptor yX3_signMeant.desc).map (fun d => d.parameters.length) = some 1 := by decide +kernel
theorem hdV_X3_addLetter : yX3_addLetter.cls = RX3 ∧ yX3_addLetter.cls ≠ "java/lang/invoke/MethodHandle" ∧ yX3_addLetter.cls ≠ "java/lang/invoke/VarHandle" ∧ (parseMethodDescriptor yX3_addLetter.desc).map (fun d => d.parameters.length) = some 4 := by decide +kernel
theorem hdS_X6_allowsSign : yX6_allowsSign.cls ≠ "java/lang/invoke/MethodHandle" ∧ yX6_allowsSign.cls ≠ "java/lang/invoke/VarHandle" ∧ (parseMethodDescriptor yX6_allowsSign.desc).map (fun d => d.parameters.length) = some 2 := by decide +kernel
theorem hdV_X3_addSign : yX3_addSign.cls = RX3 ∧ yX3_addSign.cls ≠ "java/lang/invoke/MethodHandle" ∧ yX3_addSign.cls ≠ "java/lang/invoke/VarHandle" ∧ (parseMethodDescriptor yX3_addSign.desc).map (fun d => d.parameters.length) = some 1 := by decide +kernel
theorem hdV_X3_goOnWith : yX3_goOnWith.cls = RX3 ∧ yX3_goOnWith.cls ≠ "java/lang/invoke/MethodHandle" ∧ yX3_goOnWith.cls ≠ "java/lang/invoke/VarHandle" ∧ (parseMethodDescriptor yX3_goOnWith.desc).map (fun d => d.parameters.length) = some 1 := by decide +kernel
theorem hdV_X3_beginPart : yX3_beginPart.cls = RX3 ∧ yX3_beginPart.cls ≠ "java/lang/invoke/MethodHandle" ∧ yX3_beginPart.cls ≠ "java/lang/invoke/VarHandle" ∧ (parseMethodDescriptor yX3_beginPart.desc).map (fun d => d.parameters.length) = some 1 := by decide +kernel
theorem hdV_X3_read : yX3_read.cls = RX3 ∧ yX3_read.cls ≠ "java/lang/invoke/MethodHandle" ∧ yX3_read.cls ≠ "java/lang/invoke/VarHandle" ∧ (parseMethodDescriptor yX3_read.desc).map (fun d => d.parameters.length) = some 0 := by decide +kernel
theorem hdV_X4_orderByNumber : yX4_orderByNumber.cls = RX4 ∧ yX4_orderByNumber.cls ≠ "java/lang/invoke/MethodHandle" ∧ yX4_orderByNumber.cls ≠ "java/lang/invoke/VarHandle" ∧ (parseMethodDescriptor yX4_orderByNumber.desc).map (fun d => d.parameters.length) = some 0 := by decide +kernel
theorem hdV_X4_beginWith : yX4_beginWith.cls = RX4 ∧ yX4_beginWith.cls ≠ "java/lang/invoke/MethodHandle" ∧ yX4_beginWith.cls ≠ "java/lang/invoke/VarHandle" ∧ (parseMethodDescriptor yX4_beginWith.desc).map (fun d => d.parameters.length) = some 1 := by decide +kernel
theorem hdV_X4_takeFrom : yX4_takeFrom.cls = RX4 ∧ yX4_takeFrom.cls ≠ "java/lang/invoke/MethodHandle" ∧ yX4_takeFrom.cls ≠ "java/lang/invoke/VarHandle" ∧ (parseMethodDescriptor yX4_takeFrom.desc).map (fun d => d.parameters.length) = some 1 := by decide +kernel
theorem hdV_X4_hasChange : yX4_hasChange.cls = RX4 ∧ yX4_hasChange.cls ≠ "java/lang/invoke/MethodHandle" ∧ yX4_hasChange.cls ≠ "java/lang/invoke/VarHandle" ∧ (parseMethodDescriptor yX4_hasChange.desc).map (fun d => d.parameters.length) = some 1 := by decide +kernel
theorem hdV_X4_allChanges : yX4_allChanges.cls = RX4 ∧ yX4_allChanges.cls ≠ "java/lang/invoke/MethodHandle" ∧ yX4_allChanges.cls ≠ "java/lang/invoke/VarHandle" ∧ (parseMethodDescriptor yX4_allChanges.desc).map (fun d => d.parameters.length) = some 0 := by decide +kernel
theorem hdV_X4_formOf : yX4_formOf.cls = RX4 ∧ yX4_formOf.cls ≠ "java/lang/invoke/MethodHandle" ∧ yX4_formOf.cls ≠ "java/lang/invoke/VarHandle" ∧ (parseMethodDescriptor yX4_formOf.desc).map (fun d => d.parameters.length) = some 2 := by decide +kernel
theorem hdV_X4_formCount : yX4_formCount.cls = RX4 ∧ yX4_formCount.cls ≠ "java/lang/invoke/MethodHandle" ∧ yX4_formCount.cls ≠ "java/lang/invoke/VarHandle" ∧ (parseMethodDescriptor yX4_formCount.desc).map (fun d => d.parameters.length) = some 0 := by decide +kernel
theorem hdV_X4_goToNextOrder : yX4_goToNextOrder.cls = RX4 ∧ yX4_goToNextOrder.cls ≠ "java/lang/invoke/MethodHandle" ∧ yX4_goToNextOrder.cls ≠ "java/lang/invoke/VarHandle" ∧ (parseMethodDescriptor yX4_goToNextOrder.desc).map (fun d => d.parameters.length) = some 0 := by decide +kernel
theorem hdV_X4_orderFigures : yX4_orderFigures.cls = RX4 ∧ yX4_orderFigures.cls ≠ "java/lang/invoke/MethodHandle" ∧ yX4_orderFigures.cls ≠ "java/lang/invoke/VarHandle" ∧ (parseMethodDescriptor yX4_orderFigures.desc).map (fun d => d.parameters.length) = some 0 := by decide +kernel
theorem hdV_X4_walkWith : yX4_walkWith.cls = RX4 ∧ yX4_walkWith.cls ≠ "java/lang/invoke/MethodHandle" ∧ yX4_walkWith.cls ≠ "java/lang/invoke/VarHandle" ∧ (parseMethodDescriptor yX4_walkWith.desc).map (fun d => d.parameters.length) = some 2 := by decide +kernel
theorem hdV_X4_makeOf : yX4_makeOf.cls = RX4 ∧ yX4_makeOf.cls ≠ "java/lang/invoke/MethodHandle" ∧ yX4_makeOf.cls ≠ "java/lang/invoke/VarHandle" ∧ (parseMethodDescriptor yX4_makeOf.desc).map (fun d => d.parameters.length) = some 2 := by decide +kernel
theorem hdV_X4_isAmongUnlike : yX4_isAmongUnlike.cls = RX4 ∧ yX4_isAmongUnlike.cls ≠ "java/lang/invoke/MethodHandle" ∧ yX4_isAmongUnlike.cls ≠ "java/lang/invoke/VarHandle" ∧ (parseMethodDescriptor yX4_isAmongUnlike.desc).map (fun d => d.parameters.length) = some 2 := by decide +kernel
theorem hdV_X4_unlikeWords : yX4_unlikeWords.cls = RX4 ∧ yX4_unlikeWords.cls ≠ "java/lang/invoke/MethodHandle" ∧ yX4_unlikeWords.cls ≠ "java/lang/invoke/VarHandle" ∧ (parseMethodDescriptor yX4_unlikeWords.desc).map (fun d => d.parameters.length) = some 1 := by decide +kernel
theorem hdV_X4_activeOver : yX4_activeOver.cls = RX4 ∧ yX4_activeOver.cls ≠ "java/lang/invoke/MethodHandle" ∧ yX4_activeOver.cls ≠ "java/lang/invoke/VarHandle" ∧ (parseMethodDescriptor yX4_activeOver.desc).map (fun d => d.parameters.length) = some 1 := by decide +kernel
theorem hdV_X4_activeChanges : yX4_activeChanges.cls = RX4 ∧ yX4_activeChanges.cls ≠ "java/lang/invoke/MethodHandle" ∧ yX4_activeChanges.cls ≠ "java/lang/invoke/VarHandle" ∧ (parseMethodDescriptor yX4_activeChanges.desc).map (fun d => d.parameters.length) = some 0 := by decide +kernel
theorem hdV_X4_exceptions : yX4_exceptions.cls = RX4 ∧ yX4_exceptions.cls ≠ "java/lang/invoke/MethodHandle" ∧ yX4_exceptions.cls ≠ "java/lang/invoke/VarHandle" ∧ (parseMethodDescriptor yX4_exceptions.desc).map (fun d => d.parameters.length) = some 0 := by decide +kernel
theorem hdV_X4_doCross : yX4_doCross.cls = RX4 ∧ yX4_doCross.cls ≠ "java/lang/invoke/MethodHandle" ∧ yX4_doCross.cls ≠ "java/lang/invoke/VarHandle" ∧ (parseMethodDescriptor yX4_doCross.desc).map (fun d => d.parameters.length) = some 2 := by decide +kernel
theorem hdS_X5_isWord : yX5_isWord.cls ≠ "java/lang/invoke/MethodHandle" ∧ yX5_isWord.cls ≠ "java/lang/invoke/VarHandle" ∧ (parseMethodDescriptor yX5_isWord.desc).map (fun d => d.parameters.length) = some 1 := by decide +kernel
theorem hdV_X6_write : yX6_write.cls = RX6 ∧ yX6_write.cls ≠ "java/lang/invoke/MethodHandle" ∧ yX6_write.cls ≠ "java/lang/invoke/VarHandle" ∧ (parseMethodDescriptor yX6_write.desc).map (fun d => d.parameters.length) = some 1 := by decide +kernel
theorem hdV_X6_wipe : yX6_wipe.cls = RX6 ∧ yX6_wipe.cls ≠ "java/lang/invoke/MethodHandle" ∧ yX6_wipe.cls ≠ "java/lang/invoke/VarHandle" ∧ (parseMethodDescriptor yX6_wipe.desc).map (fun d => d.parameters.length) = some 0 := by decide +kernel
theorem hdV_X6_fault : yX6_fault.cls = RX6 ∧ yX6_fault.cls ≠ "java/lang/invoke/MethodHandle" ∧ yX6_fault.cls ≠ "java/lang/invoke/VarHandle" ∧ (parseMethodDescriptor yX6_fault.desc).map (fun d => d.parameters.length) = some 1 := by decide +kernel
theorem hdV_X6_list : yX6_list.cls = RX6 ∧ yX6_list.cls ≠ "java/lang/invoke/MethodHandle" ∧ yX6_list.cls ≠ "java/lang/invoke/VarHandle" ∧ (parseMethodDescriptor yX6_list.desc).map (fun d => d.parameters.length) = some 0 := by decide +kernel
theorem hdV_X6_about : yX6_about.cls = RX6 ∧ yX6_about.cls ≠ "java/lang/invoke/MethodHandle" ∧ yX6_about.cls ≠ "java/lang/invoke/VarHandle" ∧ (parseMethodDescriptor yX6_about.desc).map (fun d => d.parameters.length) = some 1 := by decide +kernel
theorem hdV_X6_part : yX6_part.cls = RX6 ∧ yX6_part.cls ≠ "java/lang/invoke/MethodHandle" ∧ yX6_part.cls ≠ "java/lang/invoke/VarHandle" ∧ (parseMethodDescriptor yX6_part.desc).map (fun d => d.parameters.length) = some 2 := by decide +kernel
theorem hdS_X6_isSignPlace : yX6_isSignPlace.cls ≠ "java/lang/invoke/MethodHandle" ∧ yX6_isSignPlace.cls ≠ "java/lang/invoke/VarHandle" ∧ (parseMethodDescriptor yX6_isSignPlace.desc).map (fun d => d.parameters.length) = some 1 := by decide +kernel
theorem hdV_X6_sign : yX6_sign.cls = RX6 ∧ yX6_sign.cls ≠ "java/lang/invoke/MethodHandle" ∧ yX6_sign.cls ≠ "java/lang/invoke/VarHandle" ∧ (parseMethodDescriptor yX6_sign.desc).map (fun d => d.parameters.length) = some 2 := by decide +kernel
theorem hdV_X6_order : yX6_order.cls = RX6 ∧ yX6_order.cls ≠ "java/lang/invoke/MethodHandle" ∧ yX6_order.cls ≠ "java/lang/invoke/VarHandle" ∧ (parseMethodDescriptor yX6_order.desc).map (fun d => d.parameters.length) = some 1 := by decide +kernel
theorem hdV_X6_made : yX6_made.cls = RX6 ∧ yX6_made.cls ≠ "java/lang/invoke/MethodHandle" ∧ yX6_made.cls ≠ "java/lang/invoke/VarHandle" ∧ (parseMethodDescriptor yX6_made.desc).map (fun d => d.parameters.length) = some 2 := by decide +kernel
theorem hdV_X6_step : yX6_step.cls = RX6 ∧ yX6_step.cls ≠ "java/lang/invoke/MethodHandle" ∧ yX6_step.cls ≠ "java/lang/invoke/VarHandle" ∧ (parseMethodDescriptor yX6_step.desc).map (fun d => d.parameters.length) = some 3 := by decide +kernel
theorem hdV_X6_apart : yX6_apart.cls = RX6 ∧ yX6_apart.cls ≠ "java/lang/invoke/MethodHandle" ∧ yX6_apart.cls ≠ "java/lang/invoke/VarHandle" ∧ (parseMethodDescriptor yX6_apart.desc).map (fun d => d.parameters.length) = some 2 := by decide +kernel
theorem hdV_X6_form : yX6_form.cls = RX6 ∧ yX6_form.cls ≠ "java/lang/invoke/MethodHandle" ∧ yX6_form.cls ≠ "java/lang/invoke/VarHandle" ∧ (parseMethodDescriptor yX6_form.desc).map (fun d => d.parameters.length) = some 2 := by decide +kernel
theorem hdV_X6_swap : yX6_swap.cls = RX6 ∧ yX6_swap.cls ≠ "java/lang/invoke/MethodHandle" ∧ yX6_swap.cls ≠ "java/lang/invoke/VarHandle" ∧ (parseMethodDescriptor yX6_swap.desc).map (fun d => d.parameters.length) = some 2 := by decide +kernel
theorem hdV_X6_resign : yX6_resign.cls = RX6 ∧ yX6_resign.cls ≠ "java/lang/invoke/MethodHandle" ∧ yX6_resign.cls ≠ "java/lang/invoke/VarHandle" ∧ (parseMethodDescriptor yX6_resign.desc).map (fun d => d.parameters.length) = some 3 := by decide +kernel
theorem hdV_X6_tell : yX6_tell.cls = RX6 ∧ yX6_tell.cls ≠ "java/lang/invoke/MethodHandle" ∧ yX6_tell.cls ≠ "java/lang/invoke/VarHandle" ∧ (parseMethodDescriptor yX6_tell.desc).map (fun d => d.parameters.length) = some 3 := by decide +kernel
theorem hdV_X6_undo : yX6_undo.cls = RX6 ∧ yX6_undo.cls ≠ "java/lang/invoke/MethodHandle" ∧ yX6_undo.cls ≠ "java/lang/invoke/VarHandle" ∧ (parseMethodDescriptor yX6_undo.desc).map (fun d => d.parameters.length) = some 0 := by decide +kernel
theorem hdV_X6_cross : yX6_cross.cls = RX6 ∧ yX6_cross.cls ≠ "java/lang/invoke/MethodHandle" ∧ yX6_cross.cls ≠ "java/lang/invoke/VarHandle" ∧ (parseMethodDescriptor yX6_cross.desc).map (fun d => d.parameters.length) = some 2 := by decide +kernel
theorem hdV_X6_best : yX6_best.cls = RX6 ∧ yX6_best.cls ≠ "java/lang/invoke/MethodHandle" ∧ yX6_best.cls ≠ "java/lang/invoke/VarHandle" ∧ (parseMethodDescriptor yX6_best.desc).map (fun d => d.parameters.length) = some 1 := by decide +kernel
theorem hdS_X6_withoutLastFours : yX6_withoutLastFours.cls ≠ "java/lang/invoke/MethodHandle" ∧ yX6_withoutLastFours.cls ≠ "java/lang/invoke/VarHandle" ∧ (parseMethodDescriptor yX6_withoutLastFours.desc).map (fun d => d.parameters.length) = some 2 := by decide +kernel
theorem hdV_X6_canSwap : yX6_canSwap.cls = RX6 ∧ yX6_canSwap.cls ≠ "java/lang/invoke/MethodHandle" ∧ yX6_canSwap.cls ≠ "java/lang/invoke/VarHandle" ∧ (parseMethodDescriptor yX6_canSwap.desc).map (fun d => d.parameters.length) = some 2 := by decide +kernel
theorem hdV_X6_canSign : yX6_canSign.cls = RX6 ∧ yX6_canSign.cls ≠ "java/lang/invoke/MethodHandle" ∧ yX6_canSign.cls ≠ "java/lang/invoke/VarHandle" ∧ (parseMethodDescriptor yX6_canSign.desc).map (fun d => d.parameters.length) = some 3 := by decide +kernel
theorem hdV_X6_canBe : yX6_canBe.cls = RX6 ∧ yX6_canBe.cls ≠ "java/lang/invoke/MethodHandle" ∧ yX6_canBe.cls ≠ "java/lang/invoke/VarHandle" ∧ (parseMethodDescriptor yX6_canBe.desc).map (fun d => d.parameters.length) = some 4 := by decide +kernel
theorem hdV_X6_judge : yX6_judge.cls = RX6 ∧ yX6_judge.cls ≠ "java/lang/invoke/MethodHandle" ∧ yX6_judge.cls ≠ "java/lang/invoke/VarHandle" ∧ (parseMethodDescriptor yX6_judge.desc).map (fun d => d.parameters.length) = some 2 := by decide +kernel
theorem hdS_J6_bitCount_0f7a4 : yJ6_bitCount_0f7a4.cls ≠ "java/lang/invoke/MethodHandle" ∧ yJ6_bitCount_0f7a4.cls ≠ "java/lang/invoke/VarHandle" ∧ (parseMethodDescriptor yJ6_bitCount_0f7a4.desc).map (fun d => d.parameters.length) = some 1 := by decide +kernel
theorem hdS_X6_sharedDivisor : yX6_sharedDivisor.cls ≠ "java/lang/invoke/MethodHandle" ∧ yX6_sharedDivisor.cls ≠ "java/lang/invoke/VarHandle" ∧ (parseMethodDescriptor yX6_sharedDivisor.desc).map (fun d => d.parameters.length) = some 2 := by decide +kernel
theorem hdS_X6_fraction : yX6_fraction.cls ≠ "java/lang/invoke/MethodHandle" ∧ yX6_fraction.cls ≠ "java/lang/invoke/VarHandle" ∧ (parseMethodDescriptor yX6_fraction.desc).map (fun d => d.parameters.length) = some 3 := by decide +kernel
theorem hdV_X6_share : yX6_share.cls = RX6 ∧ yX6_share.cls ≠ "java/lang/invoke/MethodHandle" ∧ yX6_share.cls ≠ "java/lang/invoke/VarHandle" ∧ (parseMethodDescriptor yX6_share.desc).map (fun d => d.parameters.length) = some 2 := by decide +kernel
theorem hdV_X6_see : yX6_see.cls = RX6 ∧ yX6_see.cls ≠ "java/lang/invoke/MethodHandle" ∧ yX6_see.cls ≠ "java/lang/invoke/VarHandle" ∧ (parseMethodDescriptor yX6_see.desc).map (fun d => d.parameters.length) = some 4 := by decide +kernel
theorem hdV_X6_unsee : yX6_unsee.cls = RX6 ∧ yX6_unsee.cls ≠ "java/lang/invoke/MethodHandle" ∧ yX6_unsee.cls ≠ "java/lang/invoke/VarHandle" ∧ (parseMethodDescriptor yX6_unsee.desc).map (fun d => d.parameters.length) = some 0 := by decide +kernel
theorem hdV_X6_which : yX6_which.cls = RX6 ∧ yX6_which.cls ≠ "java/lang/invoke/MethodHandle" ∧ yX6_which.cls ≠ "java/lang/invoke/VarHandle" ∧ (parseMethodDescriptor yX6_which.desc).map (fun d => d.parameters.length) = some 1 := by decide +kernel
theorem hdS_X6_power : yX6_power.cls ≠ "java/lang/invoke/MethodHandle" ∧ yX6_power.cls ≠ "java/lang/invoke/VarHandle" ∧ (parseMethodDescriptor yX6_power.desc).map (fun d => d.parameters.length) = some 2 := by decide +kernel
theorem hdV_X6_fails : yX6_fails.cls = RX6 ∧ yX6_fails.cls ≠ "java/lang/invoke/MethodHandle" ∧ yX6_fails.cls ≠ "java/lang/invoke/VarHandle" ∧ (parseMethodDescriptor yX6_fails.desc).map (fun d => d.parameters.length) = some 4 := by decide +kernel
theorem hdV_X6_seed : yX6_seed.cls = RX6 ∧ yX6_seed.cls ≠ "java/lang/invoke/MethodHandle" ∧ yX6_seed.cls ≠ "java/lang/invoke/VarHandle" ∧ (parseMethodDescriptor yX6_seed.desc).map (fun d => d.parameters.length) = some 1 := by decide +kernel
theorem hdS_X6_rootDrawnFrom : yX6_rootDrawnFrom.cls ≠ "java/lang/invoke/MethodHandle" ∧ yX6_rootDrawnFrom.cls ≠ "java/lang/invoke/VarHandle" ∧ (parseMethodDescriptor yX6_rootDrawnFrom.desc).map (fun d => d.parameters.length) = some 1 := by decide +kernel
theorem hdV_X6_drawn : yX6_drawn.cls = RX6 ∧ yX6_drawn.cls ≠ "java/lang/invoke/MethodHandle" ∧ yX6_drawn.cls ≠ "java/lang/invoke/VarHandle" ∧ (parseMethodDescriptor yX6_drawn.desc).map (fun d => d.parameters.length) = some 1 := by decide +kernel
theorem hdS_X6_isSlot : yX6_isSlot.cls ≠ "java/lang/invoke/MethodHandle" ∧ yX6_isSlot.cls ≠ "java/lang/invoke/VarHandle" ∧ (parseMethodDescriptor yX6_isSlot.desc).map (fun d => d.parameters.length) = some 1 := by decide +kernel
theorem hdV_X6_keep : yX6_keep.cls = RX6 ∧ yX6_keep.cls ≠ "java/lang/invoke/MethodHandle" ∧ yX6_keep.cls ≠ "java/lang/invoke/VarHandle" ∧ (parseMethodDescriptor yX6_keep.desc).map (fun d => d.parameters.length) = some 1 := by decide +kernel
theorem hdV_X6_again : yX6_again.cls = RX6 ∧ yX6_again.cls ≠ "java/lang/invoke/MethodHandle" ∧ yX6_again.cls ≠ "java/lang/invoke/VarHandle" ∧ (parseMethodDescriptor yX6_again.desc).map (fun d => d.parameters.length) = some 1 := by decide +kernel
theorem hdV_X7_forgetForms : yX7_forgetForms.cls = RX7 ∧ yX7_forgetForms.cls ≠ "java/lang/invoke/MethodHandle" ∧ yX7_forgetForms.cls ≠ "java/lang/invoke/VarHandle" ∧ (parseMethodDescriptor yX7_forgetForms.desc).map (fun d => d.parameters.length) = some 0 := by decide +kernel
theorem hdS_X7_in : yX7_in.cls ≠ "java/lang/invoke/MethodHandle" ∧ yX7_in.cls ≠ "java/lang/invoke/VarHandle" ∧ (parseMethodDescriptor yX7_in.desc).map (fun d => d.parameters.length) = some 3 := by decide +kernel
theorem hdS_X7_has : yX7_has.cls ≠ "java/lang/invoke/MethodHandle" ∧ yX7_has.cls ≠ "java/lang/invoke/VarHandle" ∧ (parseMethodDescriptor yX7_has.desc).map (fun d => d.parameters.length) = some 2 := by decide +kernel
theorem hdS_X7_ones : yX7_ones.cls ≠ "java/lang/invoke/MethodHandle" ∧ yX7_ones.cls ≠ "java/lang/invoke/VarHandle" ∧ (parseMethodDescriptor yX7_ones.desc).map (fun d => d.parameters.length) = some 1 := by decide +kernel
theorem hdS_X7_power : yX7_power.cls ≠ "java/lang/invoke/MethodHandle" ∧ yX7_power.cls ≠ "java/lang/invoke/VarHandle" ∧ (parseMethodDescriptor yX7_power.desc).map (fun d => d.parameters.length) = some 2 := by decide +kernel
theorem hdS_X7_factorial : yX7_factorial.cls ≠ "java/lang/invoke/MethodHandle" ∧ yX7_factorial.cls ≠ "java/lang/invoke/VarHandle" ∧ (parseMethodDescriptor yX7_factorial.desc).map (fun d => d.parameters.length) = some 1 := by decide +kernel
theorem hdS_X7_divisor : yX7_divisor.cls ≠ "java/lang/invoke/MethodHandle" ∧ yX7_divisor.cls ≠ "java/lang/invoke/VarHandle" ∧ (parseMethodDescriptor yX7_divisor.desc).map (fun d => d.parameters.length) = some 2 := by decide +kernel
theorem hdS_X7_fraction : yX7_fraction.cls ≠ "java/lang/invoke/MethodHandle" ∧ yX7_fraction.cls ≠ "java/lang/invoke/VarHandle" ∧ (parseMethodDescriptor yX7_fraction.desc).map (fun d => d.parameters.length) = some 3 := by decide +kernel
theorem hdS_X7_size : yX7_size.cls ≠ "java/lang/invoke/MethodHandle" ∧ yX7_size.cls ≠ "java/lang/invoke/VarHandle" ∧ (parseMethodDescriptor yX7_size.desc).map (fun d => d.parameters.length) = some 1 := by decide +kernel
theorem hdS_X7_letterAt : yX7_letterAt.cls ≠ "java/lang/invoke/MethodHandle" ∧ yX7_letterAt.cls ≠ "java/lang/invoke/VarHandle" ∧ (parseMethodDescriptor yX7_letterAt.desc).map (fun d => d.parameters.length) = some 2 := by decide +kernel
theorem hdS_X7_isWord : yX7_isWord.cls ≠ "java/lang/invoke/MethodHandle" ∧ yX7_isWord.cls ≠ "java/lang/invoke/VarHandle" ∧ (parseMethodDescriptor yX7_isWord.desc).map (fun d => d.parameters.length) = some 1 := by decide +kernel
theorem hdS_X7_fits : yX7_fits.cls ≠ "java/lang/invoke/MethodHandle" ∧ yX7_fits.cls ≠ "java/lang/invoke/VarHandle" ∧ (parseMethodDescriptor yX7_fits.desc).map (fun d => d.parameters.length) = some 2 := by decide +kernel
theorem hdS_X7_changed : yX7_changed.cls ≠ "java/lang/invoke/MethodHandle" ∧ yX7_changed.cls ≠ "java/lang/invoke/VarHandle" ∧ (parseMethodDescriptor yX7_changed.desc).map (fun d => d.parameters.length) = some 3 := by decide +kernel
theorem hdS_X7_behindAll : yX7_behindAll.cls ≠ "java/lang/invoke/MethodHandle" ∧ yX7_behindAll.cls ≠ "java/lang/invoke/VarHandle" ∧ (parseMethodDescriptor yX7_behindAll.desc).map (fun d => d.parameters.length) = some 4 := by decide +kernel
theorem hdS_X7_join : yX7_join.cls ≠ "java/lang/invoke/MethodHandle" ∧ yX7_join.cls ≠ "java/lang/invoke/VarHandle" ∧ (parseMethodDescriptor yX7_join.desc).map (fun d => d.parameters.length) = some 2 := by decide +kernel
theorem hdV_X7_raw : yX7_raw.cls = RX7 ∧ yX7_raw.cls ≠ "java/lang/invoke/MethodHandle" ∧ yX7_raw.cls ≠ "java/lang/invoke/VarHandle" ∧ (parseMethodDescriptor yX7_raw.desc).map (fun d => d.parameters.length) = some 2 := by decide +kernel
theorem hdV_X7_madeBy : yX7_madeBy.cls = RX7 ∧ yX7_madeBy.cls ≠ "java/lang/invoke/MethodHandle" ∧ yX7_madeBy.cls ≠ "java/lang/invoke/VarHandle" ∧ (parseMethodDescriptor yX7_madeBy.desc).map (fun d => d.parameters.length) = some 4 := by decide +kernel
theorem hdV_X7_isRoot : yX7_isRoot.cls = RX7 ∧ yX7_isRoot.cls ≠ "java/lang/invoke/MethodHandle" ∧ yX7_isRoot.cls ≠ "java/lang/invoke/VarHandle" ∧ (parseMethodDescriptor yX7_isRoot.desc).map (fun d => d.parameters.length) = some 1 := by decide +kernel
theorem hdV_X7_isEnding : yX7_isEnding.cls = RX7 ∧ yX7_isEnding.cls ≠ "java/lang/invoke/MethodHandle" ∧ yX7_isEnding.cls ≠ "java/lang/invoke/VarHandle" ∧ (parseMethodDescriptor yX7_isEnding.desc).map (fun d => d.parameters.length) = some 1 := by decide +kernel
theorem hdV_X7_isChange : yX7_isChange.cls = RX7 ∧ yX7_isChange.cls ≠ "java/lang/invoke/MethodHandle" ∧ yX7_isChange.cls ≠ "java/lang/invoke/VarHandle" ∧ (parseMethodDescriptor yX7_isChange.desc).map (fun d => d.parameters.length) = some 1 := by decide +kernel
theorem hdV_X7_write : yX7_write.cls = RX7 ∧ yX7_write.cls ≠ "java/lang/invoke/MethodHandle" ∧ yX7_write.cls ≠ "java/lang/invoke/VarHandle" ∧ (parseMethodDescriptor yX7_write.desc).map (fun d => d.parameters.length) = some 1 := by decide +kernel
theorem hdV_X7_wipe : yX7_wipe.cls = RX7 ∧ yX7_wipe.cls ≠ "java/lang/invoke/MethodHandle" ∧ yX7_wipe.cls ≠ "java/lang/invoke/VarHandle" ∧ (parseMethodDescriptor yX7_wipe.desc).map (fun d => d.parameters.length) = some 0 := by decide +kernel
theorem hdV_X7_begun : yX7_begun.cls = RX7 ∧ yX7_begun.cls ≠ "java/lang/invoke/MethodHandle" ∧ yX7_begun.cls ≠ "java/lang/invoke/VarHandle" ∧ (parseMethodDescriptor yX7_begun.desc).map (fun d => d.parameters.length) = some 1 := by decide +kernel
theorem hdS_X7_isLetter : yX7_isLetter.cls ≠ "java/lang/invoke/MethodHandle" ∧ yX7_isLetter.cls ≠ "java/lang/invoke/VarHandle" ∧ (parseMethodDescriptor yX7_isLetter.desc).map (fun d => d.parameters.length) = some 1 := by decide +kernel
theorem hdS_X7_signOf : yX7_signOf.cls ≠ "java/lang/invoke/MethodHandle" ∧ yX7_signOf.cls ≠ "java/lang/invoke/VarHandle" ∧ (parseMethodDescriptor yX7_signOf.desc).map (fun d => d.parameters.length) = some 2 := by decide +kernel
theorem hdS_X7_mostOf : yX7_mostOf.cls ≠ "java/lang/invoke/MethodHandle" ∧ yX7_mostOf.cls ≠ "java/lang/invoke/VarHandle" ∧ (parseMethodDescriptor yX7_mostOf.desc).map (fun d => d.parameters.length) = some 1 := by decide +kernel
theorem hdS_X7_mayEnd : yX7_mayEnd.cls ≠ "java/lang/invoke/MethodHandle" ∧ yX7_mayEnd.cls ≠ "java/lang/invoke/VarHandle" ∧ (parseMethodDescriptor yX7_mayEnd.desc).map (fun d => d.parameters.length) = some 2 := by decide +kernel
theorem hdV_X7_begin : yX7_begin.cls = RX7 ∧ yX7_begin.cls ≠ "java/lang/invoke/MethodHandle" ∧ yX7_begin.cls ≠ "java/lang/invoke/VarHandle" ∧ (parseMethodDescriptor yX7_begin.desc).map (fun d => d.parameters.length) = some 1 := by decide +kernel
theorem hdV_X7_take : yX7_take.cls = RX7 ∧ yX7_take.cls ≠ "java/lang/invoke/MethodHandle" ∧ yX7_take.cls ≠ "java/lang/invoke/VarHandle" ∧ (parseMethodDescriptor yX7_take.desc).map (fun d => d.parameters.length) = some 3 := by decide +kernel
theorem hdV_X7_readText : yX7_readText.cls = RX7 ∧ yX7_readText.cls ≠ "java/lang/invoke/MethodHandle" ∧ yX7_readText.cls ≠ "java/lang/invoke/VarHandle" ∧ (parseMethodDescriptor yX7_readText.desc).map (fun d => d.parameters.length) = some 0 := by decide +kernel
theorem hdV_X7_fault : yX7_fault.cls = RX7 ∧ yX7_fault.cls ≠ "java/lang/invoke/MethodHandle" ∧ yX7_fault.cls ≠ "java/lang/invoke/VarHandle" ∧ (parseMethodDescriptor yX7_fault.desc).map (fun d => d.parameters.length) = some 1 := by decide +kernel
theorem hdV_X7_list : yX7_list.cls = RX7 ∧ yX7_list.cls ≠ "java/lang/invoke/MethodHandle" ∧ yX7_list.cls ≠ "java/lang/invoke/VarHandle" ∧ (parseMethodDescriptor yX7_list.desc).map (fun d => d.parameters.length) = some 0 := by decide +kernel
theorem hdV_X7_unlike : yX7_unlike.cls = RX7 ∧ yX7_unlike.cls ≠ "java/lang/invoke/MethodHandle" ∧ yX7_unlike.cls ≠ "java/lang/invoke/VarHandle" ∧ (parseMethodDescriptor yX7_unlike.desc).map (fun d => d.parameters.length) = some 2 := by decide +kernel
theorem hdV_X7_active : yX7_active.cls = RX7 ∧ yX7_active.cls ≠ "java/lang/invoke/MethodHandle" ∧ yX7_active.cls ≠ "java/lang/invoke/VarHandle" ∧ (parseMethodDescriptor yX7_active.desc).map (fun d => d.parameters.length) = some 1 := by decide +kernel
theorem hdV_X7_exceptions : yX7_exceptions.cls = RX7 ∧ yX7_exceptions.cls ≠ "java/lang/invoke/MethodHandle" ∧ yX7_exceptions.cls ≠ "java/lang/invoke/VarHandle" ∧ (parseMethodDescriptor yX7_exceptions.desc).map (fun d => d.parameters.length) = some 1 := by decide +kernel
theorem hdV_X7_manyForms : yX7_manyForms.cls = RX7 ∧ yX7_manyForms.cls ≠ "java/lang/invoke/MethodHandle" ∧ yX7_manyForms.cls ≠ "java/lang/invoke/VarHandle" ∧ (parseMethodDescriptor yX7_manyForms.desc).map (fun d => d.parameters.length) = some 0 := by decide +kernel
theorem hdV_X7_about : yX7_about.cls = RX7 ∧ yX7_about.cls ≠ "java/lang/invoke/MethodHandle" ∧ yX7_about.cls ≠ "java/lang/invoke/VarHandle" ∧ (parseMethodDescriptor yX7_about.desc).map (fun d => d.parameters.length) = some 1 := by decide +kernel
theorem hdV_X7_part : yX7_part.cls = RX7 ∧ yX7_part.cls ≠ "java/lang/invoke/MethodHandle" ∧ yX7_part.cls ≠ "java/lang/invoke/VarHandle" ∧ (parseMethodDescriptor yX7_part.desc).map (fun d => d.parameters.length) = some 2 := by decide +kernel
theorem hdV_X7_sign : yX7_sign.cls = RX7 ∧ yX7_sign.cls ≠ "java/lang/invoke/MethodHandle" ∧ yX7_sign.cls ≠ "java/lang/invoke/VarHandle" ∧ (parseMethodDescriptor yX7_sign.desc).map (fun d => d.parameters.length) = some 2 := by decide +kernel
theorem hdV_X7_order : yX7_order.cls = RX7 ∧ yX7_order.cls ≠ "java/lang/invoke/MethodHandle" ∧ yX7_order.cls ≠ "java/lang/invoke/VarHandle" ∧ (parseMethodDescriptor yX7_order.desc).map (fun d => d.parameters.length) = some 1 := by decide +kernel
theorem hdV_X7_made : yX7_made.cls = RX7 ∧ yX7_made.cls ≠ "java/lang/invoke/MethodHandle" ∧ yX7_made.cls ≠ "java/lang/invoke/VarHandle" ∧ (parseMethodDescriptor yX7_made.desc).map (fun d => d.parameters.length) = some 2 := by decide +kernel
theorem hdV_X7_step : yX7_step.cls = RX7 ∧ yX7_step.cls ≠ "java/lang/invoke/MethodHandle" ∧ yX7_step.cls ≠ "java/lang/invoke/VarHandle" ∧ (parseMethodDescriptor yX7_step.desc).map (fun d => d.parameters.length) = some 3 := by decide +kernel
theorem hdV_X7_apart : yX7_apart.cls = RX7 ∧ yX7_apart.cls ≠ "java/lang/invoke/MethodHandle" ∧ yX7_apart.cls ≠ "java/lang/invoke/VarHandle" ∧ (parseMethodDescriptor yX7_apart.desc).map (fun d => d.parameters.length) = some 2 := by decide +kernel
theorem hdV_X7_form : yX7_form.cls = RX7 ∧ yX7_form.cls ≠ "java/lang/invoke/MethodHandle" ∧ yX7_form.cls ≠ "java/lang/invoke/VarHandle" ∧ (parseMethodDescriptor yX7_form.desc).map (fun d => d.parameters.length) = some 2 := by decide +kernel
theorem hdV_X7_noteDoing : yX7_noteDoing.cls = RX7 ∧ yX7_noteDoing.cls ≠ "java/lang/invoke/MethodHandle" ∧ yX7_noteDoing.cls ≠ "java/lang/invoke/VarHandle" ∧ (parseMethodDescriptor yX7_noteDoing.desc).map (fun d => d.parameters.length) = some 0 := by decide +kernel
theorem hdS_X7_swapOn : yX7_swapOn.cls ≠ "java/lang/invoke/MethodHandle" ∧ yX7_swapOn.cls ≠ "java/lang/invoke/VarHandle" ∧ (parseMethodDescriptor yX7_swapOn.desc).map (fun d => d.parameters.length) = some 3 := by decide +kernel
theorem hdS_X7_isSign : yX7_isSign.cls ≠ "java/lang/invoke/MethodHandle" ∧ yX7_isSign.cls ≠ "java/lang/invoke/VarHandle" ∧ (parseMethodDescriptor yX7_isSign.desc).map (fun d => d.parameters.length) = some 2 := by decide +kernel
theorem hdV_X7_swap : yX7_swap.cls = RX7 ∧ yX7_swap.cls ≠ "java/lang/invoke/MethodHandle" ∧ yX7_swap.cls ≠ "java/lang/invoke/VarHandle" ∧ (parseMethodDescriptor yX7_swap.desc).map (fun d => d.parameters.length) = some 2 := by decide +kernel
theorem hdV_X7_resign : yX7_resign.cls = RX7 ∧ yX7_resign.cls ≠ "java/lang/invoke/MethodHandle" ∧ yX7_resign.cls ≠ "java/lang/invoke/VarHandle" ∧ (parseMethodDescriptor yX7_resign.desc).map (fun d => d.parameters.length) = some 3 := by decide +kernel
theorem hdV_X7_tell : yX7_tell.cls = RX7 ∧ yX7_tell.cls ≠ "java/lang/invoke/MethodHandle" ∧ yX7_tell.cls ≠ "java/lang/invoke/VarHandle" ∧ (parseMethodDescriptor yX7_tell.desc).map (fun d => d.parameters.length) = some 3 := by decide +kernel
theorem hdV_X7_undo : yX7_undo.cls = RX7 ∧ yX7_undo.cls ≠ "java/lang/invoke/MethodHandle" ∧ yX7_undo.cls ≠ "java/lang/invoke/VarHandle" ∧ (parseMethodDescriptor yX7_undo.desc).map (fun d => d.parameters.length) = some 0 := by decide +kernel
theorem hdV_X7_areCrossing : yX7_areCrossing.cls = RX7 ∧ yX7_areCrossing.cls ≠ "java/lang/invoke/MethodHandle" ∧ yX7_areCrossing.cls ≠ "java/lang/invoke/VarHandle" ∧ (parseMethodDescriptor yX7_areCrossing.desc).map (fun d => d.parameters.length) = some 3 := by decide +kernel
theorem hdV_X7_cross : yX7_cross.cls = RX7 ∧ yX7_cross.cls ≠ "java/lang/invoke/MethodHandle" ∧ yX7_cross.cls ≠ "java/lang/invoke/VarHandle" ∧ (parseMethodDescriptor yX7_cross.desc).map (fun d => d.parameters.length) = some 2 := by decide +kernel
theorem hdV_X7_changeAt : yX7_changeAt.cls = RX7 ∧ yX7_changeAt.cls ≠ "java/lang/invoke/MethodHandle" ∧ yX7_changeAt.cls ≠ "java/lang/invoke/VarHandle" ∧ (parseMethodDescriptor yX7_changeAt.desc).map (fun d => d.parameters.length) = some 2 := by decide +kernel
theorem hdV_X7_isOrder : yX7_isOrder.cls = RX7 ∧ yX7_isOrder.cls ≠ "java/lang/invoke/MethodHandle" ∧ yX7_isOrder.cls ≠ "java/lang/invoke/VarHandle" ∧ (parseMethodDescriptor yX7_isOrder.desc).map (fun d => d.parameters.length) = some 1 := by decide +kernel
theorem hdV_X7_figuresOf : yX7_figuresOf.cls = RX7 ∧ yX7_figuresOf.cls ≠ "java/lang/invoke/MethodHandle" ∧ yX7_figuresOf.cls ≠ "java/lang/invoke/VarHandle" ∧ (parseMethodDescriptor yX7_figuresOf.desc).map (fun d => d.parameters.length) = some 1 := by decide +kernel
theorem hdV_X7_layTrial : yX7_layTrial.cls = RX7 ∧ yX7_layTrial.cls ≠ "java/lang/invoke/MethodHandle" ∧ yX7_layTrial.cls ≠ "java/lang/invoke/VarHandle" ∧ (parseMethodDescriptor yX7_layTrial.desc).map (fun d => d.parameters.length) = some 0 := by decide +kernel
theorem hdV_X7_best : yX7_best.cls = RX7 ∧ yX7_best.cls ≠ "java/lang/invoke/MethodHandle" ∧ yX7_best.cls ≠ "java/lang/invoke/VarHandle" ∧ (parseMethodDescriptor yX7_best.desc).map (fun d => d.parameters.length) = some 1 := by decide +kernel
theorem hdV_X7_judged : yX7_judged.cls = RX7 ∧ yX7_judged.cls ≠ "java/lang/invoke/MethodHandle" ∧ yX7_judged.cls ≠ "java/lang/invoke/VarHandle" ∧ (parseMethodDescriptor yX7_judged.desc).map (fun d => d.parameters.length) = some 4 := by decide +kernel
theorem hdS_X7_tenThousands : yX7_tenThousands.cls ≠ "java/lang/invoke/MethodHandle" ∧ yX7_tenThousands.cls ≠ "java/lang/invoke/VarHandle" ∧ (parseMethodDescriptor yX7_tenThousands.desc).map (fun d => d.parameters.length) = some 1 := by decide +kernel
theorem hdV_X7_judge : yX7_judge.cls = RX7 ∧ yX7_judge.cls ≠ "java/lang/invoke/MethodHandle" ∧ yX7_judge.cls ≠ "java/lang/invoke/VarHandle" ∧ (parseMethodDescriptor yX7_judge.desc).map (fun d => d.parameters.length) = some 2 := by decide +kernel
theorem hdV_X7_share : yX7_share.cls = RX7 ∧ yX7_share.cls ≠ "java/lang/invoke/MethodHandle" ∧ yX7_share.cls ≠ "java/lang/invoke/VarHandle" ∧ (parseMethodDescriptor yX7_share.desc).map (fun d => d.parameters.length) = some 2 := by decide +kernel
theorem hdV_X7_see : yX7_see.cls = RX7 ∧ yX7_see.cls ≠ "java/lang/invoke/MethodHandle" ∧ yX7_see.cls ≠ "java/lang/invoke/VarHandle" ∧ (parseMethodDescriptor yX7_see.desc).map (fun d => d.parameters.length) = some 4 := by decide +kernel
theorem hdV_X7_unsee : yX7_unsee.cls = RX7 ∧ yX7_unsee.cls ≠ "java/lang/invoke/MethodHandle" ∧ yX7_unsee.cls ≠ "java/lang/invoke/VarHandle" ∧ (parseMethodDescriptor yX7_unsee.desc).map (fun d => d.parameters.length) = some 0 := by decide +kernel
theorem hdV_X7_agrees : yX7_agrees.cls = RX7 ∧ yX7_agrees.cls ≠ "java/lang/invoke/MethodHandle" ∧ yX7_agrees.cls ≠ "java/lang/invoke/VarHandle" ∧ (parseMethodDescriptor yX7_agrees.desc).map (fun d => d.parameters.length) = some 1 := by decide +kernel
theorem hdV_X7_which : yX7_which.cls = RX7 ∧ yX7_which.cls ≠ "java/lang/invoke/MethodHandle" ∧ yX7_which.cls ≠ "java/lang/invoke/VarHandle" ∧ (parseMethodDescriptor yX7_which.desc).map (fun d => d.parameters.length) = some 1 := by decide +kernel
theorem hdV_X7_fails : yX7_fails.cls = RX7 ∧ yX7_fails.cls ≠ "java/lang/invoke/MethodHandle" ∧ yX7_fails.cls ≠ "java/lang/invoke/VarHandle" ∧ (parseMethodDescriptor yX7_fails.desc).map (fun d => d.parameters.length) = some 4 := by decide +kernel
theorem hdV_X7_seed : yX7_seed.cls = RX7 ∧ yX7_seed.cls ≠ "java/lang/invoke/MethodHandle" ∧ yX7_seed.cls ≠ "java/lang/invoke/VarHandle" ∧ (parseMethodDescriptor yX7_seed.desc).map (fun d => d.parameters.length) = some 1 := by decide +kernel
theorem hdV_X7_drawn : yX7_drawn.cls = RX7 ∧ yX7_drawn.cls ≠ "java/lang/invoke/MethodHandle" ∧ yX7_drawn.cls ≠ "java/lang/invoke/VarHandle" ∧ (parseMethodDescriptor yX7_drawn.desc).map (fun d => d.parameters.length) = some 1 := by decide +kernel
theorem hdV_X7_keep : yX7_keep.cls = RX7 ∧ yX7_keep.cls ≠ "java/lang/invoke/MethodHandle" ∧ yX7_keep.cls ≠ "java/lang/invoke/VarHandle" ∧ (parseMethodDescriptor yX7_keep.desc).map (fun d => d.parameters.length) = some 1 := by decide +kernel
theorem hdV_X7_again : yX7_again.cls = RX7 ∧ yX7_again.cls ≠ "java/lang/invoke/MethodHandle" ∧ yX7_again.cls ≠ "java/lang/invoke/VarHandle" ∧ (parseMethodDescriptor yX7_again.desc).map (fun d => d.parameters.length) = some 1 := by decide +kernel
def Fx (X : Cx) (fa : Nat) (U : State) : Prop := va_Z "WordKin" "FACTORIALS" "[I" (.ref fa) (AD X) U U.heap ∧ va_X fa 5 fct U U.heap ∧ fa < U.heap.size ∧ ¬ AD X fa
theorem BD_ofF {l : Launch} {X : Cx} (hI : Inj X) {fa : Nat} {y : MethodName} {cc : ByteArray} {n : Nat} {r : Option FieldType} {fr lo : Nat} {h : Hp} {av : List Value} {own : String} {Qc : Array Value → State → Outcome → State → Prop} (ho : y.cls = own) (hy : plainName y.cls = true) (hlen : (lg_sl av).length ≤ n)
    (body : ∀ (p : Program) (e : Env) (s : State) (m : MethodId) (args : Array Value) (below : List Frame) (meth : Method) (c : Code), CallFix p m c cc n s args (wU y cc n r) own → meth.sig.returnType = r → meth.locks = false → va_K (wD X) classes (tyS X) s → Nst s → Fx X fa s → BK p l e ({ frames := fr, cells := 0, slots := 0, locals := lo }) s m args below meth c (MQ below Qc args s 0 0 (AD X)) X n 0 (lv_args 0 av) [] h) : Met l y (wU y cc n r) ({ frames := fr, cells := 0, slots := 0, locals := lo }) (va_Pc av (fun U => Wd X h U ∧ Fx X fa U)) Qc 0 0 (AD X) := by
  refine Met.ofW (cc := cc) (maxL := n) (ret := r) hy rfl ?_
  intro p e s m args below meth c s₁ B hml hv
  obtain ⟨rfl, ⟨hP, hK, hN⟩, hF⟩ := hv
  have hown : s.vm.findClass own = some m.cls := by rw [← ho]; exact findClass_of_methodNamed B.named
  have hl := lv_entry av (n := n) hlen
  rw [lg_entry_eq]
  exact body p e s m _ below meth c ⟨B.exec, B.bytes, hml, hown, atoms_spec (ws := wU y cc n r) B.pre⟩ B.returns B.notSynchronized hK hN hF s.heap [] _ hl ⟨hP, va_S.rf, hI, fun _ z => z⟩
