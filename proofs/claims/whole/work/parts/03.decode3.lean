theorem dX7_init_74 : decode cX7_init 74 = .ok (.iconst 3, 1) := by decide +kernel
theorem dX7_init_75 : decode cX7_init 75 = .ok (.newarray .int, 2) := by decide +kernel
theorem dX7_init_77 : decode cX7_init 77 = .ok (.putfield 38, 3) := by decide +kernel
theorem dX7_init_80 : decode cX7_init 80 = .ok (.aload_n 0, 1) := by decide +kernel
theorem dX7_init_81 : decode cX7_init 81 = .ok (.bipush 16, 2) := by decide +kernel
theorem dX7_init_83 : decode cX7_init 83 = .ok (.newarray .int, 2) := by decide +kernel
theorem dX7_init_85 : decode cX7_init 85 = .ok (.putfield 41, 3) := by decide +kernel
theorem dX7_init_88 : decode cX7_init 88 = .ok (.aload_n 0, 1) := by decide +kernel
theorem dX7_init_89 : decode cX7_init 89 = .ok (.bipush 6, 2) := by decide +kernel
theorem dX7_init_91 : decode cX7_init 91 = .ok (.newarray .int, 2) := by decide +kernel
theorem dX7_init_93 : decode cX7_init 93 = .ok (.putfield 44, 3) := by decide +kernel
theorem dX7_init_96 : decode cX7_init 96 = .ok (.aload_n 0, 1) := by decide +kernel
theorem dX7_init_97 : decode cX7_init 97 = .ok (.bipush 6, 2) := by decide +kernel
theorem dX7_init_99 : decode cX7_init 99 = .ok (.newarray .int, 2) := by decide +kernel
theorem dX7_init_101 : decode cX7_init 101 = .ok (.putfield 47, 3) := by decide +kernel
theorem dX7_init_104 : decode cX7_init 104 = .ok (.aload_n 0, 1) := by decide +kernel
theorem dX7_init_105 : decode cX7_init 105 = .ok (.bipush 6, 2) := by decide +kernel
theorem dX7_init_107 : decode cX7_init 107 = .ok (.newarray .int, 2) := by decide +kernel
theorem dX7_init_109 : decode cX7_init 109 = .ok (.putfield 50, 3) := by decide +kernel
theorem dX7_init_112 : decode cX7_init 112 = .ok (.aload_n 0, 1) := by decide +kernel
theorem dX7_init_113 : decode cX7_init 113 = .ok (.bipush 6, 2) := by decide +kernel
theorem dX7_init_115 : decode cX7_init 115 = .ok (.newarray .int, 2) := by decide +kernel
theorem dX7_init_117 : decode cX7_init 117 = .ok (.putfield 53, 3) := by decide +kernel
theorem dX7_init_120 : decode cX7_init 120 = .ok (.aload_n 0, 1) := by decide +kernel
theorem dX7_init_121 : decode cX7_init 121 = .ok (.bipush 12, 2) := by decide +kernel
theorem dX7_init_123 : decode cX7_init 123 = .ok (.newarray .int, 2) := by decide +kernel
theorem dX7_init_125 : decode cX7_init 125 = .ok (.putfield 56, 3) := by decide +kernel
theorem dX7_init_128 : decode cX7_init 128 = .ok (.aload_n 0, 1) := by decide +kernel
theorem dX7_init_129 : decode cX7_init 129 = .ok (.bipush 16, 2) := by decide +kernel
theorem dX7_init_131 : decode cX7_init 131 = .ok (.newarray .int, 2) := by decide +kernel
theorem dX7_init_133 : decode cX7_init 133 = .ok (.putfield 59, 3) := by decide +kernel
theorem dX7_init_136 : decode cX7_init 136 = .ok (.aload_n 0, 1) := by decide +kernel
theorem dX7_init_137 : decode cX7_init 137 = .ok (.invokevirtual 62, 3) := by decide +kernel
theorem dX7_init_140 : decode cX7_init 140 = .ok (.return_, 1) := by decide +kernel
theorem dX7_forgetForms_0 : decode cX7_forgetForms 0 = .ok (.bipush 20, 2) := by decide +kernel
theorem dX7_forgetForms_2 : decode cX7_forgetForms 2 = .ok (.istore_n 1, 1) := by decide +kernel
theorem dX7_forgetForms_3 : decode cX7_forgetForms 3 = .ok (.iload_n 1, 1) := by decide +kernel
theorem dX7_forgetForms_4 : decode cX7_forgetForms 4 = .ok (.bipush 32, 2) := by decide +kernel
theorem dX7_forgetForms_6 : decode cX7_forgetForms 6 = .ok (.if_icmp .ge 17, 3) := by decide +kernel
theorem dX7_forgetForms_9 : decode cX7_forgetForms 9 = .ok (.aload_n 0, 1) := by decide +kernel
theorem dX7_forgetForms_10 : decode cX7_forgetForms 10 = .ok (.getfield 13, 3) := by decide +kernel
theorem dX7_forgetForms_13 : decode cX7_forgetForms 13 = .ok (.iload_n 1, 1) := by decide +kernel
theorem dX7_forgetForms_14 : decode cX7_forgetForms 14 = .ok (.bipush (-9), 2) := by decide +kernel
theorem dX7_forgetForms_16 : decode cX7_forgetForms 16 = .ok (.iastore, 1) := by decide +kernel
theorem dX7_forgetForms_17 : decode cX7_forgetForms 17 = .ok (.iinc 1 1, 3) := by decide +kernel
theorem dX7_forgetForms_20 : decode cX7_forgetForms 20 = .ok (.goto (-17), 3) := by decide +kernel
theorem dX7_forgetForms_23 : decode cX7_forgetForms 23 = .ok (.return_, 1) := by decide +kernel
theorem dX7_in_0 : decode cX7_in 0 = .ok (.lload_n 0, 1) := by decide +kernel
theorem dX7_in_1 : decode cX7_in 1 = .ok (.lload_n 2, 1) := by decide +kernel
theorem dX7_in_2 : decode cX7_in 2 = .ok (.lcmp, 1) := by decide +kernel
theorem dX7_in_3 : decode cX7_in 3 = .ok (.ifCond .lt 14, 3) := by decide +kernel
theorem dX7_in_6 : decode cX7_in 6 = .ok (.lload_n 0, 1) := by decide +kernel
theorem dX7_in_7 : decode cX7_in 7 = .ok (.lload 4, 2) := by decide +kernel
theorem dX7_in_9 : decode cX7_in 9 = .ok (.lcmp, 1) := by decide +kernel
theorem dX7_in_10 : decode cX7_in 10 = .ok (.ifCond .gt 7, 3) := by decide +kernel
theorem dX7_in_13 : decode cX7_in 13 = .ok (.iconst 1, 1) := by decide +kernel
theorem dX7_in_14 : decode cX7_in 14 = .ok (.goto 4, 3) := by decide +kernel
theorem dX7_in_17 : decode cX7_in 17 = .ok (.iconst 0, 1) := by decide +kernel
theorem dX7_in_18 : decode cX7_in 18 = .ok (.ireturn, 1) := by decide +kernel
theorem dX7_has_0 : decode cX7_has 0 = .ok (.iload_n 0, 1) := by decide +kernel
theorem dX7_has_1 : decode cX7_has 1 = .ok (.iload_n 1, 1) := by decide +kernel
theorem dX7_has_2 : decode cX7_has 2 = .ok (.ishr, 1) := by decide +kernel
theorem dX7_has_3 : decode cX7_has 3 = .ok (.iconst 1, 1) := by decide +kernel
theorem dX7_has_4 : decode cX7_has 4 = .ok (.iand, 1) := by decide +kernel
theorem dX7_has_5 : decode cX7_has 5 = .ok (.iconst 1, 1) := by decide +kernel
theorem dX7_has_6 : decode cX7_has 6 = .ok (.if_icmp .ne 7, 3) := by decide +kernel
theorem dX7_has_9 : decode cX7_has 9 = .ok (.iconst 1, 1) := by decide +kernel
theorem dX7_has_10 : decode cX7_has 10 = .ok (.goto 4, 3) := by decide +kernel
theorem dX7_has_13 : decode cX7_has 13 = .ok (.iconst 0, 1) := by decide +kernel
theorem dX7_has_14 : decode cX7_has 14 = .ok (.ireturn, 1) := by decide +kernel
theorem dX7_ones_0 : decode cX7_ones 0 = .ok (.iconst 0, 1) := by decide +kernel
theorem dX7_ones_1 : decode cX7_ones 1 = .ok (.istore_n 1, 1) := by decide +kernel
theorem dX7_ones_2 : decode cX7_ones 2 = .ok (.iconst 0, 1) := by decide +kernel
theorem dX7_ones_3 : decode cX7_ones 3 = .ok (.istore_n 2, 1) := by decide +kernel
theorem dX7_ones_4 : decode cX7_ones 4 = .ok (.iload_n 2, 1) := by decide +kernel
theorem dX7_ones_5 : decode cX7_ones 5 = .ok (.iconst 4, 1) := by decide +kernel
theorem dX7_ones_6 : decode cX7_ones 6 = .ok (.if_icmp .ge 17, 3) := by decide +kernel
theorem dX7_ones_9 : decode cX7_ones 9 = .ok (.iload_n 1, 1) := by decide +kernel
theorem dX7_ones_10 : decode cX7_ones 10 = .ok (.iload_n 0, 1) := by decide +kernel
theorem dX7_ones_11 : decode cX7_ones 11 = .ok (.iload_n 2, 1) := by decide +kernel
theorem dX7_ones_12 : decode cX7_ones 12 = .ok (.ishr, 1) := by decide +kernel
theorem dX7_ones_13 : decode cX7_ones 13 = .ok (.iconst 1, 1) := by decide +kernel
theorem dX7_ones_14 : decode cX7_ones 14 = .ok (.iand, 1) := by decide +kernel
theorem dX7_ones_15 : decode cX7_ones 15 = .ok (.iadd, 1) := by decide +kernel
theorem dX7_ones_16 : decode cX7_ones 16 = .ok (.istore_n 1, 1) := by decide +kernel
theorem dX7_ones_17 : decode cX7_ones 17 = .ok (.iinc 2 1, 3) := by decide +kernel
theorem dX7_ones_20 : decode cX7_ones 20 = .ok (.goto (-16), 3) := by decide +kernel
theorem dX7_ones_23 : decode cX7_ones 23 = .ok (.iload_n 1, 1) := by decide +kernel
theorem dX7_ones_24 : decode cX7_ones 24 = .ok (.ireturn, 1) := by decide +kernel
theorem dX7_power_0 : decode cX7_power 0 = .ok (.iconst 1, 1) := by decide +kernel
theorem dX7_power_1 : decode cX7_power 1 = .ok (.istore_n 2, 1) := by decide +kernel
theorem dX7_power_2 : decode cX7_power 2 = .ok (.iconst 0, 1) := by decide +kernel
theorem dX7_power_3 : decode cX7_power 3 = .ok (.istore_n 3, 1) := by decide +kernel
theorem dX7_power_4 : decode cX7_power 4 = .ok (.iload_n 3, 1) := by decide +kernel
theorem dX7_power_5 : decode cX7_power 5 = .ok (.iload_n 1, 1) := by decide +kernel
theorem dX7_power_6 : decode cX7_power 6 = .ok (.if_icmp .ge 13, 3) := by decide +kernel
theorem dX7_power_9 : decode cX7_power 9 = .ok (.iload_n 2, 1) := by decide +kernel
theorem dX7_power_10 : decode cX7_power 10 = .ok (.iload_n 0, 1) := by decide +kernel
theorem dX7_power_11 : decode cX7_power 11 = .ok (.imul, 1) := by decide +kernel
theorem dX7_power_12 : decode cX7_power 12 = .ok (.istore_n 2, 1) := by decide +kernel
theorem dX7_power_13 : decode cX7_power 13 = .ok (.iinc 3 1, 3) := by decide +kernel
theorem dX7_power_16 : decode cX7_power 16 = .ok (.goto (-12), 3) := by decide +kernel
theorem dX7_power_19 : decode cX7_power 19 = .ok (.iload_n 2, 1) := by decide +kernel
theorem dX7_power_20 : decode cX7_power 20 = .ok (.ireturn, 1) := by decide +kernel
theorem dX7_factorial_0 : decode cX7_factorial 0 = .ok (.iconst 1, 1) := by decide +kernel
theorem dX7_factorial_1 : decode cX7_factorial 1 = .ok (.istore_n 1, 1) := by decide +kernel
theorem dX7_factorial_2 : decode cX7_factorial 2 = .ok (.iconst 2, 1) := by decide +kernel
theorem dX7_factorial_3 : decode cX7_factorial 3 = .ok (.istore_n 2, 1) := by decide +kernel
theorem dX7_factorial_4 : decode cX7_factorial 4 = .ok (.iload_n 2, 1) := by decide +kernel
theorem dX7_factorial_5 : decode cX7_factorial 5 = .ok (.iload_n 0, 1) := by decide +kernel
theorem dX7_factorial_6 : decode cX7_factorial 6 = .ok (.if_icmp .gt 13, 3) := by decide +kernel
theorem dX7_factorial_9 : decode cX7_factorial 9 = .ok (.iload_n 1, 1) := by decide +kernel
theorem dX7_factorial_10 : decode cX7_factorial 10 = .ok (.iload_n 2, 1) := by decide +kernel
theorem dX7_factorial_11 : decode cX7_factorial 11 = .ok (.imul, 1) := by decide +kernel
theorem dX7_factorial_12 : decode cX7_factorial 12 = .ok (.istore_n 1, 1) := by decide +kernel
theorem dX7_factorial_13 : decode cX7_factorial 13 = .ok (.iinc 2 1, 3) := by decide +kernel
theorem dX7_factorial_16 : decode cX7_factorial 16 = .ok (.goto (-12), 3) := by decide +kernel
theorem dX7_factorial_19 : decode cX7_factorial 19 = .ok (.iload_n 1, 1) := by decide +kernel
theorem dX7_factorial_20 : decode cX7_factorial 20 = .ok (.ireturn, 1) := by decide +kernel
theorem dX7_divisor_0 : decode cX7_divisor 0 = .ok (.iload_n 0, 1) := by decide +kernel
theorem dX7_divisor_1 : decode cX7_divisor 1 = .ok (.ifCond .ge 8, 3) := by decide +kernel
theorem dX7_divisor_4 : decode cX7_divisor 4 = .ok (.iload_n 0, 1) := by decide +kernel
theorem dX7_divisor_5 : decode cX7_divisor 5 = .ok (.ineg, 1) := by decide +kernel
theorem dX7_divisor_6 : decode cX7_divisor 6 = .ok (.goto 4, 3) := by decide +kernel
theorem dX7_divisor_9 : decode cX7_divisor 9 = .ok (.iload_n 0, 1) := by decide +kernel
theorem dX7_divisor_10 : decode cX7_divisor 10 = .ok (.istore_n 2, 1) := by decide +kernel
theorem dX7_divisor_11 : decode cX7_divisor 11 = .ok (.iload_n 1, 1) := by decide +kernel
theorem dX7_divisor_12 : decode cX7_divisor 12 = .ok (.istore_n 3, 1) := by decide +kernel
theorem dX7_divisor_13 : decode cX7_divisor 13 = .ok (.iload_n 3, 1) := by decide +kernel
theorem dX7_divisor_14 : decode cX7_divisor 14 = .ok (.ifCond .eq 16, 3) := by decide +kernel
theorem dX7_divisor_17 : decode cX7_divisor 17 = .ok (.iload_n 2, 1) := by decide +kernel
theorem dX7_divisor_18 : decode cX7_divisor 18 = .ok (.iload_n 3, 1) := by decide +kernel
theorem dX7_divisor_19 : decode cX7_divisor 19 = .ok (.irem, 1) := by decide +kernel
theorem dX7_divisor_20 : decode cX7_divisor 20 = .ok (.istore 4, 2) := by decide +kernel
theorem dX7_divisor_22 : decode cX7_divisor 22 = .ok (.iload_n 3, 1) := by decide +kernel
theorem dX7_divisor_23 : decode cX7_divisor 23 = .ok (.istore_n 2, 1) := by decide +kernel
theorem dX7_divisor_24 : decode cX7_divisor 24 = .ok (.iload 4, 2) := by decide +kernel
theorem dX7_divisor_26 : decode cX7_divisor 26 = .ok (.istore_n 3, 1) := by decide +kernel
theorem dX7_divisor_27 : decode cX7_divisor 27 = .ok (.goto (-14), 3) := by decide +kernel
theorem dX7_divisor_30 : decode cX7_divisor 30 = .ok (.iload_n 2, 1) := by decide +kernel
theorem dX7_divisor_31 : decode cX7_divisor 31 = .ok (.ireturn, 1) := by decide +kernel
theorem dX7_fraction_0 : decode cX7_fraction 0 = .ok (.iload_n 0, 1) := by decide +kernel
theorem dX7_fraction_1 : decode cX7_fraction 1 = .ok (.iload_n 1, 1) := by decide +kernel
theorem dX7_fraction_2 : decode cX7_fraction 2 = .ok (.invokestatic 65, 3) := by decide +kernel
theorem dX7_fraction_5 : decode cX7_fraction 5 = .ok (.istore_n 3, 1) := by decide +kernel
theorem dX7_fraction_6 : decode cX7_fraction 6 = .ok (.iload_n 2, 1) := by decide +kernel
theorem dX7_fraction_7 : decode cX7_fraction 7 = .ok (.ifCond .eq 9, 3) := by decide +kernel
theorem dX7_fraction_10 : decode cX7_fraction 10 = .ok (.iload_n 0, 1) := by decide +kernel
theorem dX7_fraction_11 : decode cX7_fraction 11 = .ok (.iload_n 3, 1) := by decide +kernel
theorem dX7_fraction_12 : decode cX7_fraction 12 = .ok (.idiv, 1) := by decide +kernel
theorem dX7_fraction_13 : decode cX7_fraction 13 = .ok (.goto 6, 3) := by decide +kernel
theorem dX7_fraction_16 : decode cX7_fraction 16 = .ok (.iload_n 1, 1) := by decide +kernel
theorem dX7_fraction_17 : decode cX7_fraction 17 = .ok (.iload_n 3, 1) := by decide +kernel
theorem dX7_fraction_18 : decode cX7_fraction 18 = .ok (.idiv, 1) := by decide +kernel
theorem dX7_fraction_19 : decode cX7_fraction 19 = .ok (.ireturn, 1) := by decide +kernel
theorem dX7_size_0 : decode cX7_size 0 = .ok (.iconst 0, 1) := by decide +kernel
theorem dX7_size_1 : decode cX7_size 1 = .ok (.istore_n 1, 1) := by decide +kernel
theorem dX7_size_2 : decode cX7_size 2 = .ok (.iload_n 0, 1) := by decide +kernel
theorem dX7_size_3 : decode cX7_size 3 = .ok (.istore_n 2, 1) := by decide +kernel
theorem dX7_size_4 : decode cX7_size 4 = .ok (.iload_n 2, 1) := by decide +kernel
theorem dX7_size_5 : decode cX7_size 5 = .ok (.ifCond .le 14, 3) := by decide +kernel
theorem dX7_size_8 : decode cX7_size 8 = .ok (.iinc 1 1, 3) := by decide +kernel
theorem dX7_size_11 : decode cX7_size 11 = .ok (.iload_n 2, 1) := by decide +kernel
theorem dX7_size_12 : decode cX7_size 12 = .ok (.bipush 10, 2) := by decide +kernel
theorem dX7_size_14 : decode cX7_size 14 = .ok (.idiv, 1) := by decide +kernel
theorem dX7_size_15 : decode cX7_size 15 = .ok (.istore_n 2, 1) := by decide +kernel
theorem dX7_size_16 : decode cX7_size 16 = .ok (.goto (-12), 3) := by decide +kernel
theorem dX7_size_19 : decode cX7_size 19 = .ok (.iload_n 1, 1) := by decide +kernel
theorem dX7_size_20 : decode cX7_size 20 = .ok (.ireturn, 1) := by decide +kernel
theorem dX7_letterAt_0 : decode cX7_letterAt 0 = .ok (.iload_n 0, 1) := by decide +kernel
theorem dX7_letterAt_1 : decode cX7_letterAt 1 = .ok (.invokestatic 69, 3) := by decide +kernel
theorem dX7_letterAt_4 : decode cX7_letterAt 4 = .ok (.istore_n 2, 1) := by decide +kernel
theorem dX7_letterAt_5 : decode cX7_letterAt 5 = .ok (.iload_n 1, 1) := by decide +kernel
theorem dX7_letterAt_6 : decode cX7_letterAt 6 = .ok (.iload_n 2, 1) := by decide +kernel
theorem dX7_letterAt_7 : decode cX7_letterAt 7 = .ok (.if_icmp .ge 21, 3) := by decide +kernel
theorem dX7_letterAt_10 : decode cX7_letterAt 10 = .ok (.iload_n 0, 1) := by decide +kernel
theorem dX7_letterAt_11 : decode cX7_letterAt 11 = .ok (.bipush 10, 2) := by decide +kernel
theorem dX7_letterAt_13 : decode cX7_letterAt 13 = .ok (.iload_n 2, 1) := by decide +kernel
theorem dX7_letterAt_14 : decode cX7_letterAt 14 = .ok (.iconst 1, 1) := by decide +kernel
theorem dX7_letterAt_15 : decode cX7_letterAt 15 = .ok (.isub, 1) := by decide +kernel
theorem dX7_letterAt_16 : decode cX7_letterAt 16 = .ok (.iload_n 1, 1) := by decide +kernel
theorem dX7_letterAt_17 : decode cX7_letterAt 17 = .ok (.isub, 1) := by decide +kernel
theorem dX7_letterAt_18 : decode cX7_letterAt 18 = .ok (.invokestatic 73, 3) := by decide +kernel
theorem dX7_letterAt_21 : decode cX7_letterAt 21 = .ok (.idiv, 1) := by decide +kernel
theorem dX7_letterAt_22 : decode cX7_letterAt 22 = .ok (.bipush 10, 2) := by decide +kernel
theorem dX7_letterAt_24 : decode cX7_letterAt 24 = .ok (.irem, 1) := by decide +kernel
theorem dX7_letterAt_25 : decode cX7_letterAt 25 = .ok (.goto 5, 3) := by decide +kernel
theorem dX7_letterAt_28 : decode cX7_letterAt 28 = .ok (.bipush (-9), 2) := by decide +kernel
theorem dX7_letterAt_30 : decode cX7_letterAt 30 = .ok (.ireturn, 1) := by decide +kernel
theorem dX7_isWord_0 : decode cX7_isWord 0 = .ok (.iload_n 0, 1) := by decide +kernel
theorem dX7_isWord_1 : decode cX7_isWord 1 = .ok (.i2l, 1) := by decide +kernel
theorem dX7_isWord_2 : decode cX7_isWord 2 = .ok (.lconst 0, 1) := by decide +kernel
theorem dX7_isWord_3 : decode cX7_isWord 3 = .ok (.ldc2_w 76, 3) := by decide +kernel
theorem dX7_isWord_6 : decode cX7_isWord 6 = .ok (.invokestatic 78, 3) := by decide +kernel
theorem dX7_isWord_9 : decode cX7_isWord 9 = .ok (.ifCond .ne 5, 3) := by decide +kernel
theorem dX7_isWord_12 : decode cX7_isWord 12 = .ok (.iconst 0, 1) := by decide +kernel
theorem dX7_isWord_13 : decode cX7_isWord 13 = .ok (.ireturn, 1) := by decide +kernel
theorem dX7_isWord_14 : decode cX7_isWord 14 = .ok (.iconst 1, 1) := by decide +kernel
theorem dX7_isWord_15 : decode cX7_isWord 15 = .ok (.istore_n 1, 1) := by decide +kernel
theorem dX7_isWord_16 : decode cX7_isWord 16 = .ok (.iload_n 0, 1) := by decide +kernel
theorem dX7_isWord_17 : decode cX7_isWord 17 = .ok (.istore_n 2, 1) := by decide +kernel
theorem dX7_isWord_18 : decode cX7_isWord 18 = .ok (.iload_n 2, 1) := by decide +kernel
theorem dX7_isWord_19 : decode cX7_isWord 19 = .ok (.ifCond .le 36, 3) := by decide +kernel
theorem dX7_isWord_22 : decode cX7_isWord 22 = .ok (.iload_n 1, 1) := by decide +kernel
theorem dX7_isWord_23 : decode cX7_isWord 23 = .ok (.ifCond .eq 22, 3) := by decide +kernel
theorem dX7_isWord_26 : decode cX7_isWord 26 = .ok (.iload_n 2, 1) := by decide +kernel
theorem dX7_isWord_27 : decode cX7_isWord 27 = .ok (.bipush 10, 2) := by decide +kernel
theorem dX7_isWord_29 : decode cX7_isWord 29 = .ok (.irem, 1) := by decide +kernel
theorem dX7_isWord_30 : decode cX7_isWord 30 = .ok (.i2l, 1) := by decide +kernel
theorem dX7_isWord_31 : decode cX7_isWord 31 = .ok (.lconst 1, 1) := by decide +kernel
theorem dX7_isWord_32 : decode cX7_isWord 32 = .ok (.ldc2_w 82, 3) := by decide +kernel
theorem dX7_isWord_35 : decode cX7_isWord 35 = .ok (.invokestatic 78, 3) := by decide +kernel
theorem dX7_isWord_38 : decode cX7_isWord 38 = .ok (.ifCond .eq 7, 3) := by decide +kernel
theorem dX7_isWord_41 : decode cX7_isWord 41 = .ok (.iconst 1, 1) := by decide +kernel
theorem dX7_isWord_42 : decode cX7_isWord 42 = .ok (.goto 4, 3) := by decide +kernel
theorem dX7_isWord_45 : decode cX7_isWord 45 = .ok (.iconst 0, 1) := by decide +kernel
theorem dX7_isWord_46 : decode cX7_isWord 46 = .ok (.istore_n 1, 1) := by decide +kernel
theorem dX7_isWord_47 : decode cX7_isWord 47 = .ok (.iload_n 2, 1) := by decide +kernel
theorem dX7_isWord_48 : decode cX7_isWord 48 = .ok (.bipush 10, 2) := by decide +kernel
theorem dX7_isWord_50 : decode cX7_isWord 50 = .ok (.idiv, 1) := by decide +kernel
theorem dX7_isWord_51 : decode cX7_isWord 51 = .ok (.istore_n 2, 1) := by decide +kernel
theorem dX7_isWord_52 : decode cX7_isWord 52 = .ok (.goto (-34), 3) := by decide +kernel
theorem dX7_isWord_55 : decode cX7_isWord 55 = .ok (.iload_n 1, 1) := by decide +kernel
theorem dX7_isWord_56 : decode cX7_isWord 56 = .ok (.ireturn, 1) := by decide +kernel
theorem dX7_fits_0 : decode cX7_fits 0 = .ok (.iload_n 0, 1) := by decide +kernel
theorem dX7_fits_1 : decode cX7_fits 1 = .ok (.bipush 6, 2) := by decide +kernel
theorem dX7_fits_3 : decode cX7_fits 3 = .ok (.if_icmp .ne 5, 3) := by decide +kernel
theorem dX7_fits_6 : decode cX7_fits 6 = .ok (.iconst 1, 1) := by decide +kernel
theorem dX7_fits_7 : decode cX7_fits 7 = .ok (.ireturn, 1) := by decide +kernel
theorem dX7_fits_8 : decode cX7_fits 8 = .ok (.iload_n 0, 1) := by decide +kernel
theorem dX7_fits_9 : decode cX7_fits 9 = .ok (.bipush 7, 2) := by decide +kernel
theorem dX7_fits_11 : decode cX7_fits 11 = .ok (.if_icmp .ne 15, 3) := by decide +kernel
theorem dX7_fits_14 : decode cX7_fits 14 = .ok (.iload_n 1, 1) := by decide +kernel
theorem dX7_fits_15 : decode cX7_fits 15 = .ok (.ifCond .ne 7, 3) := by decide +kernel
theorem dX7_fits_18 : decode cX7_fits 18 = .ok (.iconst 1, 1) := by decide +kernel
theorem dX7_fits_19 : decode cX7_fits 19 = .ok (.goto 17, 3) := by decide +kernel
theorem dX7_fits_22 : decode cX7_fits 22 = .ok (.iconst 0, 1) := by decide +kernel
theorem dX7_fits_23 : decode cX7_fits 23 = .ok (.goto 13, 3) := by decide +kernel
theorem dX7_fits_26 : decode cX7_fits 26 = .ok (.iload_n 1, 1) := by decide +kernel
theorem dX7_fits_27 : decode cX7_fits 27 = .ok (.iload_n 0, 1) := by decide +kernel
theorem dX7_fits_28 : decode cX7_fits 28 = .ok (.if_icmp .ne 7, 3) := by decide +kernel
theorem dX7_fits_31 : decode cX7_fits 31 = .ok (.iconst 1, 1) := by decide +kernel
theorem dX7_fits_32 : decode cX7_fits 32 = .ok (.goto 4, 3) := by decide +kernel
theorem dX7_fits_35 : decode cX7_fits 35 = .ok (.iconst 0, 1) := by decide +kernel
theorem dX7_fits_36 : decode cX7_fits 36 = .ok (.ireturn, 1) := by decide +kernel
theorem dX7_changed_0 : decode cX7_changed 0 = .ok (.iconst 4, 1) := by decide +kernel
theorem dX7_changed_1 : decode cX7_changed 1 = .ok (.iconst 4, 1) := by decide +kernel
theorem dX7_changed_2 : decode cX7_changed 2 = .ok (.iload_n 1, 1) := by decide +kernel
theorem dX7_changed_3 : decode cX7_changed 3 = .ok (.imul, 1) := by decide +kernel
theorem dX7_changed_4 : decode cX7_changed 4 = .ok (.iadd, 1) := by decide +kernel
theorem dX7_changed_5 : decode cX7_changed 5 = .ok (.istore_n 3, 1) := by decide +kernel
theorem dX7_changed_6 : decode cX7_changed 6 = .ok (.iconst 0, 1) := by decide +kernel
theorem dX7_changed_7 : decode cX7_changed 7 = .ok (.istore 4, 2) := by decide +kernel
theorem dX7_changed_9 : decode cX7_changed 9 = .ok (.iconst 1, 1) := by decide +kernel
theorem dX7_changed_10 : decode cX7_changed 10 = .ok (.istore 5, 2) := by decide +kernel
theorem dX7_changed_12 : decode cX7_changed 12 = .ok (.iconst 0, 1) := by decide +kernel
theorem dX7_changed_13 : decode cX7_changed 13 = .ok (.istore 6, 2) := by decide +kernel
theorem dX7_changed_15 : decode cX7_changed 15 = .ok (.iload_n 2, 1) := by decide +kernel
theorem dX7_changed_16 : decode cX7_changed 16 = .ok (.istore 7, 2) := by decide +kernel
theorem dX7_changed_18 : decode cX7_changed 18 = .ok (.iload 7, 2) := by decide +kernel
theorem dX7_changed_20 : decode cX7_changed 20 = .ok (.ifCond .le 114, 3) := by decide +kernel
theorem dX7_changed_23 : decode cX7_changed 23 = .ok (.iload 7, 2) := by decide +kernel
theorem dX7_changed_25 : decode cX7_changed 25 = .ok (.bipush 10, 2) := by decide +kernel
theorem dX7_changed_27 : decode cX7_changed 27 = .ok (.irem, 1) := by decide +kernel
theorem dX7_changed_28 : decode cX7_changed 28 = .ok (.istore 8, 2) := by decide +kernel
theorem dX7_changed_30 : decode cX7_changed 30 = .ok (.iload 8, 2) := by decide +kernel
theorem dX7_changed_32 : decode cX7_changed 32 = .ok (.aload_n 0, 1) := by decide +kernel
theorem dX7_changed_33 : decode cX7_changed 33 = .ok (.iload_n 3, 1) := by decide +kernel
theorem dX7_changed_34 : decode cX7_changed 34 = .ok (.iaload, 1) := by decide +kernel
theorem dX7_changed_35 : decode cX7_changed 35 = .ok (.if_icmp .ne 39, 3) := by decide +kernel
theorem dX7_changed_38 : decode cX7_changed 38 = .ok (.aload_n 0, 1) := by decide +kernel
theorem dX7_changed_39 : decode cX7_changed 39 = .ok (.iload_n 3, 1) := by decide +kernel
theorem dX7_changed_40 : decode cX7_changed 40 = .ok (.iconst 2, 1) := by decide +kernel
theorem dX7_changed_41 : decode cX7_changed 41 = .ok (.iadd, 1) := by decide +kernel
theorem dX7_changed_42 : decode cX7_changed 42 = .ok (.iaload, 1) := by decide +kernel
theorem dX7_changed_43 : decode cX7_changed 43 = .ok (.iload 7, 2) := by decide +kernel
theorem dX7_changed_45 : decode cX7_changed 45 = .ok (.bipush 10, 2) := by decide +kernel
theorem dX7_changed_47 : decode cX7_changed 47 = .ok (.idiv, 1) := by decide +kernel
theorem dX7_changed_48 : decode cX7_changed 48 = .ok (.bipush 10, 2) := by decide +kernel
theorem dX7_changed_50 : decode cX7_changed 50 = .ok (.irem, 1) := by decide +kernel
theorem dX7_changed_51 : decode cX7_changed 51 = .ok (.invokestatic 84, 3) := by decide +kernel
theorem dX7_changed_54 : decode cX7_changed 54 = .ok (.ifCond .eq 20, 3) := by decide +kernel
theorem dX7_changed_57 : decode cX7_changed 57 = .ok (.aload_n 0, 1) := by decide +kernel
theorem dX7_changed_58 : decode cX7_changed 58 = .ok (.iload_n 3, 1) := by decide +kernel
theorem dX7_changed_59 : decode cX7_changed 59 = .ok (.iconst 3, 1) := by decide +kernel
theorem dX7_changed_60 : decode cX7_changed 60 = .ok (.iadd, 1) := by decide +kernel
theorem dX7_changed_61 : decode cX7_changed 61 = .ok (.iaload, 1) := by decide +kernel
theorem dX7_changed_62 : decode cX7_changed 62 = .ok (.iload 6, 2) := by decide +kernel
theorem dX7_changed_64 : decode cX7_changed 64 = .ok (.invokestatic 84, 3) := by decide +kernel
theorem dX7_changed_67 : decode cX7_changed 67 = .ok (.ifCond .eq 7, 3) := by decide +kernel
theorem dX7_changed_70 : decode cX7_changed 70 = .ok (.iconst 1, 1) := by decide +kernel
theorem dX7_changed_71 : decode cX7_changed 71 = .ok (.goto 4, 3) := by decide +kernel
theorem dX7_changed_74 : decode cX7_changed 74 = .ok (.iconst 0, 1) := by decide +kernel
theorem dX7_changed_75 : decode cX7_changed 75 = .ok (.istore 9, 2) := by decide +kernel
theorem dX7_changed_77 : decode cX7_changed 77 = .ok (.iload 9, 2) := by decide +kernel
theorem dX7_changed_79 : decode cX7_changed 79 = .ok (.ifCond .eq 11, 3) := by decide +kernel
theorem dX7_changed_82 : decode cX7_changed 82 = .ok (.aload_n 0, 1) := by decide +kernel
theorem dX7_changed_83 : decode cX7_changed 83 = .ok (.iload_n 3, 1) := by decide +kernel
theorem dX7_changed_84 : decode cX7_changed 84 = .ok (.iconst 1, 1) := by decide +kernel
theorem dX7_changed_85 : decode cX7_changed 85 = .ok (.iadd, 1) := by decide +kernel
theorem dX7_changed_86 : decode cX7_changed 86 = .ok (.iaload, 1) := by decide +kernel
theorem dX7_changed_87 : decode cX7_changed 87 = .ok (.goto 5, 3) := by decide +kernel
theorem dX7_changed_90 : decode cX7_changed 90 = .ok (.iload 8, 2) := by decide +kernel
theorem dX7_changed_92 : decode cX7_changed 92 = .ok (.istore 10, 2) := by decide +kernel
theorem dX7_changed_94 : decode cX7_changed 94 = .ok (.iload 4, 2) := by decide +kernel
theorem dX7_changed_96 : decode cX7_changed 96 = .ok (.iload 5, 2) := by decide +kernel
theorem dX7_changed_98 : decode cX7_changed 98 = .ok (.iload 10, 2) := by decide +kernel
theorem dX7_changed_100 : decode cX7_changed 100 = .ok (.imul, 1) := by decide +kernel
theorem dX7_changed_101 : decode cX7_changed 101 = .ok (.iadd, 1) := by decide +kernel
theorem dX7_changed_102 : decode cX7_changed 102 = .ok (.istore 4, 2) := by decide +kernel
theorem dX7_changed_104 : decode cX7_changed 104 = .ok (.iload 5, 2) := by decide +kernel
theorem dX7_changed_106 : decode cX7_changed 106 = .ok (.iload 10, 2) := by decide +kernel
theorem dX7_changed_108 : decode cX7_changed 108 = .ok (.ifCond .ne 7, 3) := by decide +kernel
theorem dX7_changed_111 : decode cX7_changed 111 = .ok (.iconst 1, 1) := by decide +kernel
theorem dX7_changed_112 : decode cX7_changed 112 = .ok (.goto 5, 3) := by decide +kernel
theorem dX7_changed_115 : decode cX7_changed 115 = .ok (.bipush 10, 2) := by decide +kernel
theorem dX7_changed_117 : decode cX7_changed 117 = .ok (.imul, 1) := by decide +kernel
theorem dX7_changed_118 : decode cX7_changed 118 = .ok (.istore 5, 2) := by decide +kernel
theorem dX7_changed_120 : decode cX7_changed 120 = .ok (.iload 8, 2) := by decide +kernel
theorem dX7_changed_122 : decode cX7_changed 122 = .ok (.istore 6, 2) := by decide +kernel
theorem dX7_changed_124 : decode cX7_changed 124 = .ok (.iload 7, 2) := by decide +kernel
theorem dX7_changed_126 : decode cX7_changed 126 = .ok (.bipush 10, 2) := by decide +kernel
theorem dX7_changed_128 : decode cX7_changed 128 = .ok (.idiv, 1) := by decide +kernel
theorem dX7_changed_129 : decode cX7_changed 129 = .ok (.istore 7, 2) := by decide +kernel
theorem dX7_changed_131 : decode cX7_changed 131 = .ok (.goto (-113), 3) := by decide +kernel
theorem dX7_changed_134 : decode cX7_changed 134 = .ok (.iload 4, 2) := by decide +kernel
theorem dX7_changed_136 : decode cX7_changed 136 = .ok (.ireturn, 1) := by decide +kernel
theorem dX7_behindAll_0 : decode cX7_behindAll 0 = .ok (.iload_n 1, 1) := by decide +kernel
theorem dX7_behindAll_1 : decode cX7_behindAll 1 = .ok (.istore 4, 2) := by decide +kernel
theorem dX7_behindAll_3 : decode cX7_behindAll 3 = .ok (.iconst 0, 1) := by decide +kernel
theorem dX7_behindAll_4 : decode cX7_behindAll 4 = .ok (.istore 5, 2) := by decide +kernel
theorem dX7_behindAll_6 : decode cX7_behindAll 6 = .ok (.iload 5, 2) := by decide +kernel
theorem dX7_behindAll_8 : decode cX7_behindAll 8 = .ok (.iload_n 2, 1) := by decide +kernel
theorem dX7_behindAll_9 : decode cX7_behindAll 9 = .ok (.if_icmp .ge 37, 3) := by decide +kernel
theorem dX7_behindAll_12 : decode cX7_behindAll 12 = .ok (.iload_n 3, 1) := by decide +kernel
theorem dX7_behindAll_13 : decode cX7_behindAll 13 = .ok (.aload_n 0, 1) := by decide +kernel
theorem dX7_behindAll_14 : decode cX7_behindAll 14 = .ok (.iload 5, 2) := by decide +kernel
theorem dX7_behindAll_16 : decode cX7_behindAll 16 = .ok (.iaload, 1) := by decide +kernel
theorem dX7_behindAll_17 : decode cX7_behindAll 17 = .ok (.invokestatic 88, 3) := by decide +kernel
theorem dX7_behindAll_20 : decode cX7_behindAll 20 = .ok (.ifCond .eq 16, 3) := by decide +kernel
theorem dX7_behindAll_23 : decode cX7_behindAll 23 = .ok (.aload_n 0, 1) := by decide +kernel
theorem dX7_behindAll_24 : decode cX7_behindAll 24 = .ok (.aload_n 0, 1) := by decide +kernel
theorem dX7_behindAll_25 : decode cX7_behindAll 25 = .ok (.iload 5, 2) := by decide +kernel
theorem dX7_behindAll_27 : decode cX7_behindAll 27 = .ok (.iaload, 1) := by decide +kernel
theorem dX7_behindAll_28 : decode cX7_behindAll 28 = .ok (.iload 4, 2) := by decide +kernel
theorem dX7_behindAll_30 : decode cX7_behindAll 30 = .ok (.invokestatic 91, 3) := by decide +kernel
theorem dX7_behindAll_33 : decode cX7_behindAll 33 = .ok (.goto 5, 3) := by decide +kernel
theorem dX7_behindAll_36 : decode cX7_behindAll 36 = .ok (.iload 4, 2) := by decide +kernel
theorem dX7_behindAll_38 : decode cX7_behindAll 38 = .ok (.istore 4, 2) := by decide +kernel
theorem dX7_behindAll_40 : decode cX7_behindAll 40 = .ok (.iinc 5 1, 3) := by decide +kernel
theorem dX7_behindAll_43 : decode cX7_behindAll 43 = .ok (.goto (-37), 3) := by decide +kernel
theorem dX7_behindAll_46 : decode cX7_behindAll 46 = .ok (.iload 4, 2) := by decide +kernel
theorem dX7_behindAll_48 : decode cX7_behindAll 48 = .ok (.ireturn, 1) := by decide +kernel
theorem dX7_join_0 : decode cX7_join 0 = .ok (.iload_n 0, 1) := by decide +kernel
theorem dX7_join_1 : decode cX7_join 1 = .ok (.bipush 10, 2) := by decide +kernel
theorem dX7_join_3 : decode cX7_join 3 = .ok (.iload_n 1, 1) := by decide +kernel
theorem dX7_join_4 : decode cX7_join 4 = .ok (.invokestatic 69, 3) := by decide +kernel
theorem dX7_join_7 : decode cX7_join 7 = .ok (.invokestatic 73, 3) := by decide +kernel
theorem dX7_join_10 : decode cX7_join 10 = .ok (.imul, 1) := by decide +kernel
theorem dX7_join_11 : decode cX7_join 11 = .ok (.iload_n 1, 1) := by decide +kernel
theorem dX7_join_12 : decode cX7_join 12 = .ok (.iadd, 1) := by decide +kernel
theorem dX7_join_13 : decode cX7_join 13 = .ok (.ireturn, 1) := by decide +kernel
theorem dX7_raw_0 : decode cX7_raw 0 = .ok (.aload_n 0, 1) := by decide +kernel
theorem dX7_raw_1 : decode cX7_raw 1 = .ok (.getfield 29, 3) := by decide +kernel
theorem dX7_raw_4 : decode cX7_raw 4 = .ok (.iload_n 1, 1) := by decide +kernel
theorem dX7_raw_5 : decode cX7_raw 5 = .ok (.iaload, 1) := by decide +kernel
theorem dX7_raw_6 : decode cX7_raw 6 = .ok (.aload_n 0, 1) := by decide +kernel
theorem dX7_raw_7 : decode cX7_raw 7 = .ok (.getfield 32, 3) := by decide +kernel
theorem dX7_raw_10 : decode cX7_raw 10 = .ok (.iload_n 2, 1) := by decide +kernel
theorem dX7_raw_11 : decode cX7_raw 11 = .ok (.iaload, 1) := by decide +kernel
theorem dX7_raw_12 : decode cX7_raw 12 = .ok (.invokestatic 95, 3) := by decide +kernel
theorem dX7_raw_15 : decode cX7_raw 15 = .ok (.ireturn, 1) := by decide +kernel
theorem dX7_madeBy_0 : decode cX7_madeBy 0 = .ok (.aload_n 1, 1) := by decide +kernel
theorem dX7_madeBy_1 : decode cX7_madeBy 1 = .ok (.aload_n 0, 1) := by decide +kernel
theorem dX7_madeBy_2 : decode cX7_madeBy 2 = .ok (.iload_n 2, 1) := by decide +kernel
theorem dX7_madeBy_3 : decode cX7_madeBy 3 = .ok (.iload_n 3, 1) := by decide +kernel
theorem dX7_madeBy_4 : decode cX7_madeBy 4 = .ok (.invokevirtual 98, 3) := by decide +kernel
theorem dX7_madeBy_7 : decode cX7_madeBy 7 = .ok (.aload_n 0, 1) := by decide +kernel
theorem dX7_madeBy_8 : decode cX7_madeBy 8 = .ok (.getfield 101, 3) := by decide +kernel
theorem dX7_madeBy_11 : decode cX7_madeBy 11 = .ok (.iload 4, 2) := by decide +kernel
theorem dX7_madeBy_13 : decode cX7_madeBy 13 = .ok (.invokestatic 105, 3) := by decide +kernel
theorem dX7_madeBy_16 : decode cX7_madeBy 16 = .ok (.ireturn, 1) := by decide +kernel
theorem dX7_isRoot_0 : decode cX7_isRoot 0 = .ok (.iload_n 1, 1) := by decide +kernel
theorem dX7_isRoot_1 : decode cX7_isRoot 1 = .ok (.i2l, 1) := by decide +kernel
theorem dX7_isRoot_2 : decode cX7_isRoot 2 = .ok (.lconst 0, 1) := by decide +kernel
theorem dX7_isRoot_3 : decode cX7_isRoot 3 = .ok (.aload_n 0, 1) := by decide +kernel
theorem dX7_isRoot_4 : decode cX7_isRoot 4 = .ok (.getfield 109, 3) := by decide +kernel
theorem dX7_isRoot_7 : decode cX7_isRoot 7 = .ok (.iconst 1, 1) := by decide +kernel
theorem dX7_isRoot_8 : decode cX7_isRoot 8 = .ok (.isub, 1) := by decide +kernel
theorem dX7_isRoot_9 : decode cX7_isRoot 9 = .ok (.i2l, 1) := by decide +kernel
theorem dX7_isRoot_10 : decode cX7_isRoot 10 = .ok (.invokestatic 78, 3) := by decide +kernel
theorem dX7_isRoot_13 : decode cX7_isRoot 13 = .ok (.ireturn, 1) := by decide +kernel
theorem dX7_isEnding_0 : decode cX7_isEnding 0 = .ok (.iload_n 1, 1) := by decide +kernel
theorem dX7_isEnding_1 : decode cX7_isEnding 1 = .ok (.i2l, 1) := by decide +kernel
theorem dX7_isEnding_2 : decode cX7_isEnding 2 = .ok (.lconst 0, 1) := by decide +kernel
theorem dX7_isEnding_3 : decode cX7_isEnding 3 = .ok (.aload_n 0, 1) := by decide +kernel
theorem dX7_isEnding_4 : decode cX7_isEnding 4 = .ok (.getfield 112, 3) := by decide +kernel
theorem dX7_isEnding_7 : decode cX7_isEnding 7 = .ok (.iconst 1, 1) := by decide +kernel
theorem dX7_isEnding_8 : decode cX7_isEnding 8 = .ok (.isub, 1) := by decide +kernel
theorem dX7_isEnding_9 : decode cX7_isEnding 9 = .ok (.i2l, 1) := by decide +kernel
theorem dX7_isEnding_10 : decode cX7_isEnding 10 = .ok (.invokestatic 78, 3) := by decide +kernel
theorem dX7_isEnding_13 : decode cX7_isEnding 13 = .ok (.ireturn, 1) := by decide +kernel
theorem dX7_isChange_0 : decode cX7_isChange 0 = .ok (.iload_n 1, 1) := by decide +kernel
theorem dX7_isChange_1 : decode cX7_isChange 1 = .ok (.i2l, 1) := by decide +kernel
theorem dX7_isChange_2 : decode cX7_isChange 2 = .ok (.lconst 0, 1) := by decide +kernel
theorem dX7_isChange_3 : decode cX7_isChange 3 = .ok (.aload_n 0, 1) := by decide +kernel
theorem dX7_isChange_4 : decode cX7_isChange 4 = .ok (.getfield 101, 3) := by decide +kernel
theorem dX7_isChange_7 : decode cX7_isChange 7 = .ok (.iconst 1, 1) := by decide +kernel
theorem dX7_isChange_8 : decode cX7_isChange 8 = .ok (.isub, 1) := by decide +kernel
theorem dX7_isChange_9 : decode cX7_isChange 9 = .ok (.i2l, 1) := by decide +kernel
theorem dX7_isChange_10 : decode cX7_isChange 10 = .ok (.invokestatic 78, 3) := by decide +kernel
theorem dX7_isChange_13 : decode cX7_isChange 13 = .ok (.ireturn, 1) := by decide +kernel
theorem dX7_write_0 : decode cX7_write 0 = .ok (.iload_n 1, 1) := by decide +kernel
theorem dX7_write_1 : decode cX7_write 1 = .ok (.i2l, 1) := by decide +kernel
theorem dX7_write_2 : decode cX7_write 2 = .ok (.lconst 0, 1) := by decide +kernel
theorem dX7_write_3 : decode cX7_write 3 = .ok (.ldc2_w 115, 3) := by decide +kernel
theorem dX7_write_6 : decode cX7_write 6 = .ok (.invokestatic 78, 3) := by decide +kernel
theorem dX7_write_9 : decode cX7_write 9 = .ok (.ifCond .ne 6, 3) := by decide +kernel
theorem dX7_write_12 : decode cX7_write 12 = .ok (.bipush (-2), 2) := by decide +kernel
theorem dX7_write_14 : decode cX7_write 14 = .ok (.ireturn, 1) := by decide +kernel
theorem dX7_write_15 : decode cX7_write 15 = .ok (.aload_n 0, 1) := by decide +kernel
theorem dX7_write_16 : decode cX7_write 16 = .ok (.getfield 117, 3) := by decide +kernel
theorem dX7_write_19 : decode cX7_write 19 = .ok (.bipush 60, 2) := by decide +kernel
theorem dX7_write_21 : decode cX7_write 21 = .ok (.if_icmp .ne 6, 3) := by decide +kernel
theorem dX7_write_24 : decode cX7_write 24 = .ok (.bipush (-4), 2) := by decide +kernel
theorem dX7_write_26 : decode cX7_write 26 = .ok (.ireturn, 1) := by decide +kernel
theorem dX7_write_27 : decode cX7_write 27 = .ok (.aload_n 0, 1) := by decide +kernel
theorem dX7_write_28 : decode cX7_write 28 = .ok (.getfield 7, 3) := by decide +kernel
theorem dX7_write_31 : decode cX7_write 31 = .ok (.aload_n 0, 1) := by decide +kernel
theorem dX7_write_32 : decode cX7_write 32 = .ok (.getfield 117, 3) := by decide +kernel
theorem dX7_write_35 : decode cX7_write 35 = .ok (.iload_n 1, 1) := by decide +kernel
theorem dX7_write_36 : decode cX7_write 36 = .ok (.iastore, 1) := by decide +kernel
theorem dX7_write_37 : decode cX7_write 37 = .ok (.aload_n 0, 1) := by decide +kernel
theorem dX7_write_38 : decode cX7_write 38 = .ok (.dup, 1) := by decide +kernel
theorem dX7_write_39 : decode cX7_write 39 = .ok (.getfield 117, 3) := by decide +kernel
theorem dX7_write_42 : decode cX7_write 42 = .ok (.iconst 1, 1) := by decide +kernel
theorem dX7_write_43 : decode cX7_write 43 = .ok (.iadd, 1) := by decide +kernel
theorem dX7_write_44 : decode cX7_write 44 = .ok (.putfield 117, 3) := by decide +kernel
theorem dX7_write_47 : decode cX7_write 47 = .ok (.aload_n 0, 1) := by decide +kernel
theorem dX7_write_48 : decode cX7_write 48 = .ok (.getfield 117, 3) := by decide +kernel
theorem dX7_write_51 : decode cX7_write 51 = .ok (.ireturn, 1) := by decide +kernel
theorem dX7_wipe_0 : decode cX7_wipe 0 = .ok (.aload_n 0, 1) := by decide +kernel
theorem dX7_wipe_1 : decode cX7_wipe 1 = .ok (.getfield 117, 3) := by decide +kernel
theorem dX7_wipe_4 : decode cX7_wipe 4 = .ok (.istore_n 1, 1) := by decide +kernel
theorem dX7_wipe_5 : decode cX7_wipe 5 = .ok (.aload_n 0, 1) := by decide +kernel
theorem dX7_wipe_6 : decode cX7_wipe 6 = .ok (.iconst 0, 1) := by decide +kernel
theorem dX7_wipe_7 : decode cX7_wipe 7 = .ok (.putfield 117, 3) := by decide +kernel
theorem dX7_wipe_10 : decode cX7_wipe 10 = .ok (.iload_n 1, 1) := by decide +kernel
theorem dX7_wipe_11 : decode cX7_wipe 11 = .ok (.ireturn, 1) := by decide +kernel
theorem dX7_begun_0 : decode cX7_begun 0 = .ok (.iload_n 1, 1) := by decide +kernel
theorem dX7_begun_1 : decode cX7_begun 1 = .ok (.bipush 82, 2) := by decide +kernel
theorem dX7_begun_3 : decode cX7_begun 3 = .ok (.if_icmp .ne 13, 3) := by decide +kernel
theorem dX7_begun_6 : decode cX7_begun 6 = .ok (.aload_n 0, 1) := by decide +kernel
theorem dX7_begun_7 : decode cX7_begun 7 = .ok (.getfield 120, 3) := by decide +kernel
theorem dX7_begun_10 : decode cX7_begun 10 = .ok (.iconst 4, 1) := by decide +kernel
theorem dX7_begun_11 : decode cX7_begun 11 = .ok (.if_icmp .ge 5, 3) := by decide +kernel
theorem dX7_begun_14 : decode cX7_begun 14 = .ok (.iconst 1, 1) := by decide +kernel
theorem dX7_begun_15 : decode cX7_begun 15 = .ok (.ireturn, 1) := by decide +kernel
theorem dX7_begun_16 : decode cX7_begun 16 = .ok (.iload_n 1, 1) := by decide +kernel
theorem dX7_begun_17 : decode cX7_begun 17 = .ok (.bipush 69, 2) := by decide +kernel
theorem dX7_begun_19 : decode cX7_begun 19 = .ok (.if_icmp .ne 13, 3) := by decide +kernel
theorem dX7_begun_22 : decode cX7_begun 22 = .ok (.aload_n 0, 1) := by decide +kernel
theorem dX7_begun_23 : decode cX7_begun 23 = .ok (.getfield 123, 3) := by decide +kernel
theorem dX7_begun_26 : decode cX7_begun 26 = .ok (.iconst 3, 1) := by decide +kernel
theorem dX7_begun_27 : decode cX7_begun 27 = .ok (.if_icmp .ge 5, 3) := by decide +kernel
theorem dX7_begun_30 : decode cX7_begun 30 = .ok (.iconst 2, 1) := by decide +kernel
theorem dX7_begun_31 : decode cX7_begun 31 = .ok (.ireturn, 1) := by decide +kernel
theorem dX7_begun_32 : decode cX7_begun 32 = .ok (.iload_n 1, 1) := by decide +kernel
theorem dX7_begun_33 : decode cX7_begun 33 = .ok (.bipush 67, 2) := by decide +kernel
theorem dX7_begun_35 : decode cX7_begun 35 = .ok (.if_icmp .ne 15, 3) := by decide +kernel
theorem dX7_begun_38 : decode cX7_begun 38 = .ok (.aload_n 0, 1) := by decide +kernel
theorem dX7_begun_39 : decode cX7_begun 39 = .ok (.getfield 126, 3) := by decide +kernel
theorem dX7_begun_42 : decode cX7_begun 42 = .ok (.iconst 4, 1) := by decide +kernel
theorem dX7_begun_43 : decode cX7_begun 43 = .ok (.if_icmp .ge 7, 3) := by decide +kernel
theorem dX7_begun_46 : decode cX7_begun 46 = .ok (.iconst 3, 1) := by decide +kernel
theorem dX7_begun_47 : decode cX7_begun 47 = .ok (.goto 4, 3) := by decide +kernel
theorem dX7_begun_50 : decode cX7_begun 50 = .ok (.iconst 0, 1) := by decide +kernel
theorem dX7_begun_51 : decode cX7_begun 51 = .ok (.ireturn, 1) := by decide +kernel
theorem dX7_isLetter_0 : decode cX7_isLetter 0 = .ok (.iload_n 0, 1) := by decide +kernel
theorem dX7_isLetter_1 : decode cX7_isLetter 1 = .ok (.i2l, 1) := by decide +kernel
theorem dX7_isLetter_2 : decode cX7_isLetter 2 = .ok (.ldc2_w 129, 3) := by decide +kernel
theorem dX7_isLetter_5 : decode cX7_isLetter 5 = .ok (.ldc2_w 131, 3) := by decide +kernel
theorem dX7_isLetter_8 : decode cX7_isLetter 8 = .ok (.invokestatic 78, 3) := by decide +kernel
theorem dX7_isLetter_11 : decode cX7_isLetter 11 = .ok (.ireturn, 1) := by decide +kernel
theorem dX7_signOf_0 : decode cX7_signOf 0 = .ok (.iload_n 0, 1) := by decide +kernel
theorem dX7_signOf_1 : decode cX7_signOf 1 = .ok (.invokestatic 133, 3) := by decide +kernel
theorem dX7_signOf_4 : decode cX7_signOf 4 = .ok (.ifCond .eq 8, 3) := by decide +kernel
theorem dX7_signOf_7 : decode cX7_signOf 7 = .ok (.iload_n 0, 1) := by decide +kernel
theorem dX7_signOf_8 : decode cX7_signOf 8 = .ok (.bipush 96, 2) := by decide +kernel
theorem dX7_signOf_10 : decode cX7_signOf 10 = .ok (.isub, 1) := by decide +kernel
theorem dX7_signOf_11 : decode cX7_signOf 11 = .ok (.ireturn, 1) := by decide +kernel
theorem dX7_signOf_12 : decode cX7_signOf 12 = .ok (.iload_n 1, 1) := by decide +kernel
theorem dX7_signOf_13 : decode cX7_signOf 13 = .ok (.iconst 1, 1) := by decide +kernel
theorem dX7_signOf_14 : decode cX7_signOf 14 = .ok (.if_icmp .ne 16, 3) := by decide +kernel
theorem dX7_signOf_17 : decode cX7_signOf 17 = .ok (.iload_n 0, 1) := by decide +kernel
theorem dX7_signOf_18 : decode cX7_signOf 18 = .ok (.bipush 45, 2) := by decide +kernel
theorem dX7_signOf_20 : decode cX7_signOf 20 = .ok (.if_icmp .ne 7, 3) := by decide +kernel
theorem dX7_signOf_23 : decode cX7_signOf 23 = .ok (.iconst 0, 1) := by decide +kernel
theorem dX7_signOf_24 : decode cX7_signOf 24 = .ok (.goto 5, 3) := by decide +kernel
theorem dX7_signOf_27 : decode cX7_signOf 27 = .ok (.bipush (-9), 2) := by decide +kernel
theorem dX7_signOf_29 : decode cX7_signOf 29 = .ok (.ireturn, 1) := by decide +kernel
theorem dX7_signOf_30 : decode cX7_signOf 30 = .ok (.iload_n 1, 1) := by decide +kernel
theorem dX7_signOf_31 : decode cX7_signOf 31 = .ok (.ifCond .ne 6, 3) := by decide +kernel
theorem dX7_signOf_34 : decode cX7_signOf 34 = .ok (.bipush (-9), 2) := by decide +kernel
theorem dX7_signOf_36 : decode cX7_signOf 36 = .ok (.ireturn, 1) := by decide +kernel
theorem dX7_signOf_37 : decode cX7_signOf 37 = .ok (.iload_n 0, 1) := by decide +kernel
theorem dX7_signOf_38 : decode cX7_signOf 38 = .ok (.bipush 42, 2) := by decide +kernel
theorem dX7_signOf_40 : decode cX7_signOf 40 = .ok (.if_icmp .ne 8, 3) := by decide +kernel
theorem dX7_signOf_43 : decode cX7_signOf 43 = .ok (.bipush 6, 2) := by decide +kernel
theorem dX7_signOf_45 : decode cX7_signOf 45 = .ok (.goto 16, 3) := by decide +kernel
theorem dX7_signOf_48 : decode cX7_signOf 48 = .ok (.iload_n 0, 1) := by decide +kernel
theorem dX7_signOf_49 : decode cX7_signOf 49 = .ok (.bipush 46, 2) := by decide +kernel
theorem dX7_signOf_51 : decode cX7_signOf 51 = .ok (.if_icmp .ne 8, 3) := by decide +kernel
theorem dX7_signOf_54 : decode cX7_signOf 54 = .ok (.bipush 7, 2) := by decide +kernel
theorem dX7_signOf_56 : decode cX7_signOf 56 = .ok (.goto 5, 3) := by decide +kernel
theorem dX7_signOf_59 : decode cX7_signOf 59 = .ok (.bipush (-9), 2) := by decide +kernel
theorem dX7_signOf_61 : decode cX7_signOf 61 = .ok (.ireturn, 1) := by decide +kernel
theorem dX7_mostOf_0 : decode cX7_mostOf 0 = .ok (.iload_n 0, 1) := by decide +kernel
theorem dX7_mostOf_1 : decode cX7_mostOf 1 = .ok (.iconst 1, 1) := by decide +kernel
theorem dX7_mostOf_2 : decode cX7_mostOf 2 = .ok (.if_icmp .ne 7, 3) := by decide +kernel
theorem dX7_mostOf_5 : decode cX7_mostOf 5 = .ok (.iconst 4, 1) := by decide +kernel
theorem dX7_mostOf_6 : decode cX7_mostOf 6 = .ok (.goto 22, 3) := by decide +kernel
theorem dX7_mostOf_9 : decode cX7_mostOf 9 = .ok (.iload_n 0, 1) := by decide +kernel
theorem dX7_mostOf_10 : decode cX7_mostOf 10 = .ok (.iconst 2, 1) := by decide +kernel
theorem dX7_mostOf_11 : decode cX7_mostOf 11 = .ok (.if_icmp .ne 7, 3) := by decide +kernel
theorem dX7_mostOf_14 : decode cX7_mostOf 14 = .ok (.iconst 2, 1) := by decide +kernel
theorem dX7_mostOf_15 : decode cX7_mostOf 15 = .ok (.goto 13, 3) := by decide +kernel
theorem dX7_mostOf_18 : decode cX7_mostOf 18 = .ok (.iload_n 0, 1) := by decide +kernel
theorem dX7_mostOf_19 : decode cX7_mostOf 19 = .ok (.iconst 3, 1) := by decide +kernel
theorem dX7_mostOf_20 : decode cX7_mostOf 20 = .ok (.if_icmp .ne 7, 3) := by decide +kernel
theorem dX7_mostOf_23 : decode cX7_mostOf 23 = .ok (.iconst 4, 1) := by decide +kernel
theorem dX7_mostOf_24 : decode cX7_mostOf 24 = .ok (.goto 4, 3) := by decide +kernel
theorem dX7_mostOf_27 : decode cX7_mostOf 27 = .ok (.iconst 0, 1) := by decide +kernel
theorem dX7_mostOf_28 : decode cX7_mostOf 28 = .ok (.ireturn, 1) := by decide +kernel
theorem dX7_mayEnd_0 : decode cX7_mayEnd 0 = .ok (.iload_n 0, 1) := by decide +kernel
theorem dX7_mayEnd_1 : decode cX7_mayEnd 1 = .ok (.ifCond .eq 20, 3) := by decide +kernel
theorem dX7_mayEnd_4 : decode cX7_mayEnd 4 = .ok (.iload_n 0, 1) := by decide +kernel
theorem dX7_mayEnd_5 : decode cX7_mayEnd 5 = .ok (.iconst 3, 1) := by decide +kernel
theorem dX7_mayEnd_6 : decode cX7_mayEnd 6 = .ok (.if_icmp .ne 11, 3) := by decide +kernel
theorem dX7_mayEnd_9 : decode cX7_mayEnd 9 = .ok (.iload_n 1, 1) := by decide +kernel
theorem dX7_mayEnd_10 : decode cX7_mayEnd 10 = .ok (.iconst 4, 1) := by decide +kernel
theorem dX7_mayEnd_11 : decode cX7_mayEnd 11 = .ok (.if_icmp .ne 14, 3) := by decide +kernel
theorem dX7_mayEnd_14 : decode cX7_mayEnd 14 = .ok (.goto 7, 3) := by decide +kernel
theorem dX7_mayEnd_17 : decode cX7_mayEnd 17 = .ok (.iload_n 1, 1) := by decide +kernel
theorem dX7_mayEnd_18 : decode cX7_mayEnd 18 = .ok (.ifCond .le 7, 3) := by decide +kernel
theorem dX7_mayEnd_21 : decode cX7_mayEnd 21 = .ok (.iconst 1, 1) := by decide +kernel
theorem dX7_mayEnd_22 : decode cX7_mayEnd 22 = .ok (.goto 4, 3) := by decide +kernel
theorem dX7_mayEnd_25 : decode cX7_mayEnd 25 = .ok (.iconst 0, 1) := by decide +kernel
theorem dX7_mayEnd_26 : decode cX7_mayEnd 26 = .ok (.ireturn, 1) := by decide +kernel
theorem dX7_begin_0 : decode cX7_begin 0 = .ok (.aload_n 0, 1) := by decide +kernel
theorem dX7_begin_1 : decode cX7_begin 1 = .ok (.dup, 1) := by decide +kernel
theorem dX7_begin_2 : decode cX7_begin 2 = .ok (.getfield 137, 3) := by decide +kernel
theorem dX7_begin_5 : decode cX7_begin 5 = .ok (.iconst 1, 1) := by decide +kernel
theorem dX7_begin_6 : decode cX7_begin 6 = .ok (.iadd, 1) := by decide +kernel
theorem dX7_begin_7 : decode cX7_begin 7 = .ok (.putfield 137, 3) := by decide +kernel
theorem dX7_begin_10 : decode cX7_begin 10 = .ok (.iload_n 1, 1) := by decide +kernel
theorem dX7_begin_11 : decode cX7_begin 11 = .ok (.iconst 1, 1) := by decide +kernel
theorem dX7_begin_12 : decode cX7_begin 12 = .ok (.if_icmp .ne 26, 3) := by decide +kernel
theorem dX7_begin_15 : decode cX7_begin 15 = .ok (.aload_n 0, 1) := by decide +kernel
theorem dX7_begin_16 : decode cX7_begin 16 = .ok (.getfield 35, 3) := by decide +kernel
theorem dX7_begin_19 : decode cX7_begin 19 = .ok (.aload_n 0, 1) := by decide +kernel
theorem dX7_begin_20 : decode cX7_begin 20 = .ok (.getfield 120, 3) := by decide +kernel
theorem dX7_begin_23 : decode cX7_begin 23 = .ok (.iconst 0, 1) := by decide +kernel
theorem dX7_begin_24 : decode cX7_begin 24 = .ok (.iastore, 1) := by decide +kernel
theorem dX7_begin_25 : decode cX7_begin 25 = .ok (.aload_n 0, 1) := by decide +kernel
theorem dX7_begin_26 : decode cX7_begin 26 = .ok (.dup, 1) := by decide +kernel
theorem dX7_begin_27 : decode cX7_begin 27 = .ok (.getfield 120, 3) := by decide +kernel
theorem dX7_begin_30 : decode cX7_begin 30 = .ok (.iconst 1, 1) := by decide +kernel
theorem dX7_begin_31 : decode cX7_begin 31 = .ok (.iadd, 1) := by decide +kernel
theorem dX7_begin_32 : decode cX7_begin 32 = .ok (.putfield 120, 3) := by decide +kernel
theorem dX7_begin_35 : decode cX7_begin 35 = .ok (.goto 41, 3) := by decide +kernel
theorem dX7_begin_38 : decode cX7_begin 38 = .ok (.iload_n 1, 1) := by decide +kernel
theorem dX7_begin_39 : decode cX7_begin 39 = .ok (.iconst 2, 1) := by decide +kernel
theorem dX7_begin_40 : decode cX7_begin 40 = .ok (.if_icmp .ne 26, 3) := by decide +kernel
theorem dX7_begin_43 : decode cX7_begin 43 = .ok (.aload_n 0, 1) := by decide +kernel
theorem dX7_begin_44 : decode cX7_begin 44 = .ok (.getfield 38, 3) := by decide +kernel
theorem dX7_begin_47 : decode cX7_begin 47 = .ok (.aload_n 0, 1) := by decide +kernel
theorem dX7_begin_48 : decode cX7_begin 48 = .ok (.getfield 123, 3) := by decide +kernel
theorem dX7_begin_51 : decode cX7_begin 51 = .ok (.iconst 0, 1) := by decide +kernel
theorem dX7_begin_52 : decode cX7_begin 52 = .ok (.iastore, 1) := by decide +kernel
theorem dX7_begin_53 : decode cX7_begin 53 = .ok (.aload_n 0, 1) := by decide +kernel
theorem dX7_begin_54 : decode cX7_begin 54 = .ok (.dup, 1) := by decide +kernel
theorem dX7_begin_55 : decode cX7_begin 55 = .ok (.getfield 123, 3) := by decide +kernel
theorem dX7_begin_58 : decode cX7_begin 58 = .ok (.iconst 1, 1) := by decide +kernel
theorem dX7_begin_59 : decode cX7_begin 59 = .ok (.iadd, 1) := by decide +kernel
theorem dX7_begin_60 : decode cX7_begin 60 = .ok (.putfield 123, 3) := by decide +kernel
theorem dX7_begin_63 : decode cX7_begin 63 = .ok (.goto 13, 3) := by decide +kernel
theorem dX7_begin_66 : decode cX7_begin 66 = .ok (.aload_n 0, 1) := by decide +kernel
theorem dX7_begin_67 : decode cX7_begin 67 = .ok (.dup, 1) := by decide +kernel
theorem dX7_begin_68 : decode cX7_begin 68 = .ok (.getfield 126, 3) := by decide +kernel
theorem dX7_begin_71 : decode cX7_begin 71 = .ok (.iconst 1, 1) := by decide +kernel
theorem dX7_begin_72 : decode cX7_begin 72 = .ok (.iadd, 1) := by decide +kernel
theorem dX7_begin_73 : decode cX7_begin 73 = .ok (.putfield 126, 3) := by decide +kernel
theorem dX7_begin_76 : decode cX7_begin 76 = .ok (.return_, 1) := by decide +kernel
theorem dX7_take_0 : decode cX7_take 0 = .ok (.iload_n 2, 1) := by decide +kernel
theorem dX7_take_1 : decode cX7_take 1 = .ok (.iload_n 1, 1) := by decide +kernel
theorem dX7_take_2 : decode cX7_take 2 = .ok (.invokestatic 140, 3) := by decide +kernel
theorem dX7_take_5 : decode cX7_take 5 = .ok (.if_icmp .lt 5, 3) := by decide +kernel
theorem dX7_take_8 : decode cX7_take 8 = .ok (.iconst 0, 1) := by decide +kernel
theorem dX7_take_9 : decode cX7_take 9 = .ok (.ireturn, 1) := by decide +kernel
theorem dX7_take_10 : decode cX7_take 10 = .ok (.iload_n 1, 1) := by decide +kernel
theorem dX7_take_11 : decode cX7_take 11 = .ok (.iconst 3, 1) := by decide +kernel
theorem dX7_take_12 : decode cX7_take 12 = .ok (.if_icmp .ne 11, 3) := by decide +kernel
theorem dX7_take_15 : decode cX7_take 15 = .ok (.iload_n 3, 1) := by decide +kernel
theorem dX7_take_16 : decode cX7_take 16 = .ok (.iload_n 2, 1) := by decide +kernel
theorem dX7_take_17 : decode cX7_take 17 = .ok (.invokestatic 143, 3) := by decide +kernel
theorem dX7_take_20 : decode cX7_take 20 = .ok (.goto 19, 3) := by decide +kernel
theorem dX7_take_23 : decode cX7_take 23 = .ok (.iload_n 3, 1) := by decide +kernel
theorem dX7_take_24 : decode cX7_take 24 = .ok (.invokestatic 133, 3) := by decide +kernel
theorem dX7_take_27 : decode cX7_take 27 = .ok (.ifCond .eq 10, 3) := by decide +kernel
theorem dX7_take_30 : decode cX7_take 30 = .ok (.iload_n 3, 1) := by decide +kernel
theorem dX7_take_31 : decode cX7_take 31 = .ok (.bipush 96, 2) := by decide +kernel
theorem dX7_take_33 : decode cX7_take 33 = .ok (.isub, 1) := by decide +kernel
theorem dX7_take_34 : decode cX7_take 34 = .ok (.goto 5, 3) := by decide +kernel
theorem dX7_take_37 : decode cX7_take 37 = .ok (.bipush (-9), 2) := by decide +kernel
theorem dX7_take_39 : decode cX7_take 39 = .ok (.istore 4, 2) := by decide +kernel
theorem dX7_take_41 : decode cX7_take 41 = .ok (.iload 4, 2) := by decide +kernel
theorem dX7_take_43 : decode cX7_take 43 = .ok (.bipush (-9), 2) := by decide +kernel
theorem dX7_take_45 : decode cX7_take 45 = .ok (.if_icmp .ne 5, 3) := by decide +kernel
theorem dX7_take_48 : decode cX7_take 48 = .ok (.iconst 0, 1) := by decide +kernel
theorem dX7_take_49 : decode cX7_take 49 = .ok (.ireturn, 1) := by decide +kernel
theorem dX7_take_50 : decode cX7_take 50 = .ok (.iload_n 1, 1) := by decide +kernel
theorem dX7_take_51 : decode cX7_take 51 = .ok (.iconst 1, 1) := by decide +kernel
theorem dX7_take_52 : decode cX7_take 52 = .ok (.if_icmp .ne 34, 3) := by decide +kernel
theorem dX7_take_55 : decode cX7_take 55 = .ok (.aload_n 0, 1) := by decide +kernel
theorem dX7_take_56 : decode cX7_take 56 = .ok (.getfield 35, 3) := by decide +kernel
theorem dX7_take_59 : decode cX7_take 59 = .ok (.aload_n 0, 1) := by decide +kernel
theorem dX7_take_60 : decode cX7_take 60 = .ok (.getfield 120, 3) := by decide +kernel
theorem dX7_take_63 : decode cX7_take 63 = .ok (.iconst 1, 1) := by decide +kernel
theorem dX7_take_64 : decode cX7_take 64 = .ok (.isub, 1) := by decide +kernel
theorem dX7_take_65 : decode cX7_take 65 = .ok (.bipush 10, 2) := by decide +kernel
theorem dX7_take_67 : decode cX7_take 67 = .ok (.aload_n 0, 1) := by decide +kernel
theorem dX7_take_68 : decode cX7_take 68 = .ok (.getfield 35, 3) := by decide +kernel
theorem dX7_take_71 : decode cX7_take 71 = .ok (.aload_n 0, 1) := by decide +kernel
theorem dX7_take_72 : decode cX7_take 72 = .ok (.getfield 120, 3) := by decide +kernel
theorem dX7_take_75 : decode cX7_take 75 = .ok (.iconst 1, 1) := by decide +kernel
theorem dX7_take_76 : decode cX7_take 76 = .ok (.isub, 1) := by decide +kernel
theorem dX7_take_77 : decode cX7_take 77 = .ok (.iaload, 1) := by decide +kernel
theorem dX7_take_78 : decode cX7_take 78 = .ok (.imul, 1) := by decide +kernel
theorem dX7_take_79 : decode cX7_take 79 = .ok (.iload 4, 2) := by decide +kernel
theorem dX7_take_81 : decode cX7_take 81 = .ok (.iadd, 1) := by decide +kernel
theorem dX7_take_82 : decode cX7_take 82 = .ok (.iastore, 1) := by decide +kernel
theorem dX7_take_83 : decode cX7_take 83 = .ok (.goto 56, 3) := by decide +kernel
theorem dX7_take_86 : decode cX7_take 86 = .ok (.iload_n 1, 1) := by decide +kernel
theorem dX7_take_87 : decode cX7_take 87 = .ok (.iconst 2, 1) := by decide +kernel
theorem dX7_take_88 : decode cX7_take 88 = .ok (.if_icmp .ne 34, 3) := by decide +kernel
theorem dX7_take_91 : decode cX7_take 91 = .ok (.aload_n 0, 1) := by decide +kernel
theorem dX7_take_92 : decode cX7_take 92 = .ok (.getfield 38, 3) := by decide +kernel
theorem dX7_take_95 : decode cX7_take 95 = .ok (.aload_n 0, 1) := by decide +kernel
theorem dX7_take_96 : decode cX7_take 96 = .ok (.getfield 123, 3) := by decide +kernel
theorem dX7_take_99 : decode cX7_take 99 = .ok (.iconst 1, 1) := by decide +kernel
theorem dX7_take_100 : decode cX7_take 100 = .ok (.isub, 1) := by decide +kernel
theorem dX7_take_101 : decode cX7_take 101 = .ok (.bipush 10, 2) := by decide +kernel
theorem dX7_take_103 : decode cX7_take 103 = .ok (.aload_n 0, 1) := by decide +kernel
theorem dX7_take_104 : decode cX7_take 104 = .ok (.getfield 38, 3) := by decide +kernel
theorem dX7_take_107 : decode cX7_take 107 = .ok (.aload_n 0, 1) := by decide +kernel
theorem dX7_take_108 : decode cX7_take 108 = .ok (.getfield 123, 3) := by decide +kernel
theorem dX7_take_111 : decode cX7_take 111 = .ok (.iconst 1, 1) := by decide +kernel
theorem dX7_take_112 : decode cX7_take 112 = .ok (.isub, 1) := by decide +kernel
theorem dX7_take_113 : decode cX7_take 113 = .ok (.iaload, 1) := by decide +kernel
theorem dX7_take_114 : decode cX7_take 114 = .ok (.imul, 1) := by decide +kernel
theorem dX7_take_115 : decode cX7_take 115 = .ok (.iload 4, 2) := by decide +kernel
theorem dX7_take_117 : decode cX7_take 117 = .ok (.iadd, 1) := by decide +kernel
theorem dX7_take_118 : decode cX7_take 118 = .ok (.iastore, 1) := by decide +kernel
theorem dX7_take_119 : decode cX7_take 119 = .ok (.goto 20, 3) := by decide +kernel
theorem dX7_take_122 : decode cX7_take 122 = .ok (.aload_n 0, 1) := by decide +kernel
theorem dX7_take_123 : decode cX7_take 123 = .ok (.getfield 41, 3) := by decide +kernel
theorem dX7_take_126 : decode cX7_take 126 = .ok (.iconst 4, 1) := by decide +kernel
theorem dX7_take_127 : decode cX7_take 127 = .ok (.aload_n 0, 1) := by decide +kernel
theorem dX7_take_128 : decode cX7_take 128 = .ok (.getfield 126, 3) := by decide +kernel
theorem dX7_take_131 : decode cX7_take 131 = .ok (.iconst 1, 1) := by decide +kernel
theorem dX7_take_132 : decode cX7_take 132 = .ok (.isub, 1) := by decide +kernel
theorem dX7_take_133 : decode cX7_take 133 = .ok (.imul, 1) := by decide +kernel
theorem dX7_take_134 : decode cX7_take 134 = .ok (.iload_n 2, 1) := by decide +kernel
theorem dX7_take_135 : decode cX7_take 135 = .ok (.iadd, 1) := by decide +kernel
theorem dX7_take_136 : decode cX7_take 136 = .ok (.iload 4, 2) := by decide +kernel
theorem dX7_take_138 : decode cX7_take 138 = .ok (.iastore, 1) := by decide +kernel
theorem dX7_take_139 : decode cX7_take 139 = .ok (.iconst 1, 1) := by decide +kernel
theorem dX7_take_140 : decode cX7_take 140 = .ok (.ireturn, 1) := by decide +kernel
theorem dX7_readText_0 : decode cX7_readText 0 = .ok (.aload_n 0, 1) := by decide +kernel
theorem dX7_readText_1 : decode cX7_readText 1 = .ok (.iconst 0, 1) := by decide +kernel
theorem dX7_readText_2 : decode cX7_readText 2 = .ok (.putfield 120, 3) := by decide +kernel
theorem dX7_readText_5 : decode cX7_readText 5 = .ok (.aload_n 0, 1) := by decide +kernel
theorem dX7_readText_6 : decode cX7_readText 6 = .ok (.iconst 0, 1) := by decide +kernel
theorem dX7_readText_7 : decode cX7_readText 7 = .ok (.putfield 123, 3) := by decide +kernel
theorem dX7_readText_10 : decode cX7_readText 10 = .ok (.aload_n 0, 1) := by decide +kernel
theorem dX7_readText_11 : decode cX7_readText 11 = .ok (.iconst 0, 1) := by decide +kernel
theorem dX7_readText_12 : decode cX7_readText 12 = .ok (.putfield 126, 3) := by decide +kernel
theorem dX7_readText_15 : decode cX7_readText 15 = .ok (.aload_n 0, 1) := by decide +kernel
theorem dX7_readText_16 : decode cX7_readText 16 = .ok (.iconst 0, 1) := by decide +kernel
theorem dX7_readText_17 : decode cX7_readText 17 = .ok (.putfield 137, 3) := by decide +kernel
theorem dX7_readText_20 : decode cX7_readText 20 = .ok (.aload_n 0, 1) := by decide +kernel
theorem dX7_readText_21 : decode cX7_readText 21 = .ok (.bipush (-9), 2) := by decide +kernel
theorem dX7_readText_23 : decode cX7_readText 23 = .ok (.putfield 146, 3) := by decide +kernel
theorem dX7_readText_26 : decode cX7_readText 26 = .ok (.iconst 0, 1) := by decide +kernel
theorem dX7_readText_27 : decode cX7_readText 27 = .ok (.istore_n 1, 1) := by decide +kernel
theorem dX7_readText_28 : decode cX7_readText 28 = .ok (.iconst 0, 1) := by decide +kernel
theorem dX7_readText_29 : decode cX7_readText 29 = .ok (.istore_n 2, 1) := by decide +kernel
theorem dX7_readText_30 : decode cX7_readText 30 = .ok (.iconst 0, 1) := by decide +kernel
theorem dX7_readText_31 : decode cX7_readText 31 = .ok (.istore_n 3, 1) := by decide +kernel
theorem dX7_readText_32 : decode cX7_readText 32 = .ok (.iload_n 3, 1) := by decide +kernel
theorem dX7_readText_33 : decode cX7_readText 33 = .ok (.aload_n 0, 1) := by decide +kernel
theorem dX7_readText_34 : decode cX7_readText 34 = .ok (.getfield 117, 3) := by decide +kernel
theorem dX7_readText_37 : decode cX7_readText 37 = .ok (.if_icmp .ge 135, 3) := by decide +kernel
theorem dX7_readText_40 : decode cX7_readText 40 = .ok (.iload_n 1, 1) := by decide +kernel
theorem dX7_readText_41 : decode cX7_readText 41 = .ok (.iload_n 2, 1) := by decide +kernel
theorem dX7_readText_42 : decode cX7_readText 42 = .ok (.invokestatic 149, 3) := by decide +kernel
theorem dX7_readText_45 : decode cX7_readText 45 = .ok (.istore 4, 2) := by decide +kernel
theorem dX7_readText_47 : decode cX7_readText 47 = .ok (.iload 4, 2) := by decide +kernel
theorem dX7_readText_49 : decode cX7_readText 49 = .ok (.ifCond .eq 16, 3) := by decide +kernel
theorem dX7_readText_52 : decode cX7_readText 52 = .ok (.aload_n 0, 1) := by decide +kernel
theorem dX7_readText_53 : decode cX7_readText 53 = .ok (.aload_n 0, 1) := by decide +kernel
theorem dX7_readText_54 : decode cX7_readText 54 = .ok (.getfield 7, 3) := by decide +kernel
theorem dX7_readText_57 : decode cX7_readText 57 = .ok (.iload_n 3, 1) := by decide +kernel
theorem dX7_readText_58 : decode cX7_readText 58 = .ok (.iaload, 1) := by decide +kernel
theorem dX7_readText_59 : decode cX7_readText 59 = .ok (.invokevirtual 152, 3) := by decide +kernel
theorem dX7_readText_62 : decode cX7_readText 62 = .ok (.goto 4, 3) := by decide +kernel
theorem dX7_readText_65 : decode cX7_readText 65 = .ok (.iconst 0, 1) := by decide +kernel
theorem dX7_readText_66 : decode cX7_readText 66 = .ok (.istore 5, 2) := by decide +kernel
theorem dX7_readText_68 : decode cX7_readText 68 = .ok (.iload 5, 2) := by decide +kernel
theorem dX7_readText_70 : decode cX7_readText 70 = .ok (.ifCond .le 17, 3) := by decide +kernel
theorem dX7_readText_73 : decode cX7_readText 73 = .ok (.aload_n 0, 1) := by decide +kernel
theorem dX7_readText_74 : decode cX7_readText 74 = .ok (.iload 5, 2) := by decide +kernel
theorem dX7_readText_76 : decode cX7_readText 76 = .ok (.invokevirtual 155, 3) := by decide +kernel
theorem dX7_readText_79 : decode cX7_readText 79 = .ok (.iload 5, 2) := by decide +kernel
theorem dX7_readText_81 : decode cX7_readText 81 = .ok (.istore_n 1, 1) := by decide +kernel
theorem dX7_readText_82 : decode cX7_readText 82 = .ok (.iconst 0, 1) := by decide +kernel
theorem dX7_readText_83 : decode cX7_readText 83 = .ok (.istore_n 2, 1) := by decide +kernel
theorem dX7_readText_84 : decode cX7_readText 84 = .ok (.goto 82, 3) := by decide +kernel
theorem dX7_readText_87 : decode cX7_readText 87 = .ok (.aload_n 0, 1) := by decide +kernel
theorem dX7_readText_88 : decode cX7_readText 88 = .ok (.iload_n 1, 1) := by decide +kernel
theorem dX7_readText_89 : decode cX7_readText 89 = .ok (.iload_n 2, 1) := by decide +kernel
theorem dX7_readText_90 : decode cX7_readText 90 = .ok (.aload_n 0, 1) := by decide +kernel
theorem dX7_readText_91 : decode cX7_readText 91 = .ok (.getfield 7, 3) := by decide +kernel
theorem dX7_readText_94 : decode cX7_readText 94 = .ok (.iload_n 3, 1) := by decide +kernel
theorem dX7_readText_95 : decode cX7_readText 95 = .ok (.iaload, 1) := by decide +kernel
theorem dX7_readText_96 : decode cX7_readText 96 = .ok (.invokevirtual 159, 3) := by decide +kernel
theorem dX7_readText_99 : decode cX7_readText 99 = .ok (.ifCond .eq 9, 3) := by decide +kernel
theorem dX7_readText_102 : decode cX7_readText 102 = .ok (.iinc 2 1, 3) := by decide +kernel
theorem dX7_readText_105 : decode cX7_readText 105 = .ok (.goto 61, 3) := by decide +kernel
theorem dX7_readText_108 : decode cX7_readText 108 = .ok (.iload 4, 2) := by decide +kernel
theorem dX7_readText_110 : decode cX7_readText 110 = .ok (.ifCond .eq 25, 3) := by decide +kernel
theorem dX7_readText_113 : decode cX7_readText 113 = .ok (.iload_n 1, 1) := by decide +kernel
theorem dX7_readText_114 : decode cX7_readText 114 = .ok (.iconst 1, 1) := by decide +kernel
theorem dX7_readText_115 : decode cX7_readText 115 = .ok (.if_icmp .eq 8, 3) := by decide +kernel
theorem dX7_readText_118 : decode cX7_readText 118 = .ok (.iload_n 1, 1) := by decide +kernel
theorem dX7_readText_119 : decode cX7_readText 119 = .ok (.iconst 2, 1) := by decide +kernel
theorem dX7_readText_120 : decode cX7_readText 120 = .ok (.if_icmp .ne 19, 3) := by decide +kernel
theorem dX7_readText_123 : decode cX7_readText 123 = .ok (.aload_n 0, 1) := by decide +kernel
theorem dX7_readText_124 : decode cX7_readText 124 = .ok (.getfield 7, 3) := by decide +kernel
theorem dX7_readText_127 : decode cX7_readText 127 = .ok (.iload_n 3, 1) := by decide +kernel
theorem dX7_readText_128 : decode cX7_readText 128 = .ok (.iaload, 1) := by decide +kernel
theorem dX7_readText_129 : decode cX7_readText 129 = .ok (.invokestatic 133, 3) := by decide +kernel
theorem dX7_readText_132 : decode cX7_readText 132 = .ok (.ifCond .eq 7, 3) := by decide +kernel
theorem dX7_readText_135 : decode cX7_readText 135 = .ok (.iconst 1, 1) := by decide +kernel
theorem dX7_readText_136 : decode cX7_readText 136 = .ok (.goto 4, 3) := by decide +kernel
theorem dX7_readText_139 : decode cX7_readText 139 = .ok (.iconst 0, 1) := by decide +kernel
theorem dX7_readText_140 : decode cX7_readText 140 = .ok (.istore 6, 2) := by decide +kernel
theorem dX7_readText_142 : decode cX7_readText 142 = .ok (.aload_n 0, 1) := by decide +kernel
theorem dX7_readText_143 : decode cX7_readText 143 = .ok (.iload 6, 2) := by decide +kernel
theorem dX7_readText_145 : decode cX7_readText 145 = .ok (.ifCond .eq 12, 3) := by decide +kernel
theorem dX7_readText_148 : decode cX7_readText 148 = .ok (.aload_n 0, 1) := by decide +kernel
theorem dX7_readText_149 : decode cX7_readText 149 = .ok (.getfield 137, 3) := by decide +kernel
theorem dX7_readText_152 : decode cX7_readText 152 = .ok (.iconst 1, 1) := by decide +kernel
theorem dX7_readText_153 : decode cX7_readText 153 = .ok (.isub, 1) := by decide +kernel
theorem dX7_readText_154 : decode cX7_readText 154 = .ok (.goto 7, 3) := by decide +kernel
theorem dX7_readText_157 : decode cX7_readText 157 = .ok (.aload_n 0, 1) := by decide +kernel
theorem dX7_readText_158 : decode cX7_readText 158 = .ok (.getfield 137, 3) := by decide +kernel
theorem dX7_readText_161 : decode cX7_readText 161 = .ok (.putfield 146, 3) := by decide +kernel
theorem dX7_readText_164 : decode cX7_readText 164 = .ok (.iload_n 3, 1) := by decide +kernel
theorem dX7_readText_165 : decode cX7_readText 165 = .ok (.ireturn, 1) := by decide +kernel
theorem dX7_readText_166 : decode cX7_readText 166 = .ok (.iinc 3 1, 3) := by decide +kernel
theorem dX7_readText_169 : decode cX7_readText 169 = .ok (.goto (-137), 3) := by decide +kernel
theorem dX7_readText_172 : decode cX7_readText 172 = .ok (.iload_n 1, 1) := by decide +kernel
theorem dX7_readText_173 : decode cX7_readText 173 = .ok (.iload_n 2, 1) := by decide +kernel
theorem dX7_readText_174 : decode cX7_readText 174 = .ok (.invokestatic 149, 3) := by decide +kernel
theorem dX7_readText_177 : decode cX7_readText 177 = .ok (.ifCond .eq 6, 3) := by decide +kernel
theorem dX7_readText_180 : decode cX7_readText 180 = .ok (.bipush (-9), 2) := by decide +kernel
theorem dX7_readText_182 : decode cX7_readText 182 = .ok (.ireturn, 1) := by decide +kernel
theorem dX7_readText_183 : decode cX7_readText 183 = .ok (.aload_n 0, 1) := by decide +kernel
theorem dX7_readText_184 : decode cX7_readText 184 = .ok (.aload_n 0, 1) := by decide +kernel
theorem dX7_readText_185 : decode cX7_readText 185 = .ok (.getfield 137, 3) := by decide +kernel
theorem dX7_readText_188 : decode cX7_readText 188 = .ok (.iconst 1, 1) := by decide +kernel
theorem dX7_readText_189 : decode cX7_readText 189 = .ok (.isub, 1) := by decide +kernel
theorem dX7_readText_190 : decode cX7_readText 190 = .ok (.putfield 146, 3) := by decide +kernel
theorem dX7_readText_193 : decode cX7_readText 193 = .ok (.aload_n 0, 1) := by decide +kernel
theorem dX7_readText_194 : decode cX7_readText 194 = .ok (.getfield 117, 3) := by decide +kernel
theorem dX7_readText_197 : decode cX7_readText 197 = .ok (.ireturn, 1) := by decide +kernel
theorem dX7_fault_0 : decode cX7_fault 0 = .ok (.iload_n 1, 1) := by decide +kernel
theorem dX7_fault_1 : decode cX7_fault 1 = .ok (.i2l, 1) := by decide +kernel
theorem dX7_fault_2 : decode cX7_fault 2 = .ok (.lconst 0, 1) := by decide +kernel
theorem dX7_fault_3 : decode cX7_fault 3 = .ok (.lconst 1, 1) := by decide +kernel
theorem dX7_fault_4 : decode cX7_fault 4 = .ok (.invokestatic 78, 3) := by decide +kernel
theorem dX7_fault_7 : decode cX7_fault 7 = .ok (.ifCond .ne 6, 3) := by decide +kernel
theorem dX7_fault_10 : decode cX7_fault 10 = .ok (.bipush (-2), 2) := by decide +kernel
theorem dX7_fault_12 : decode cX7_fault 12 = .ok (.ireturn, 1) := by decide +kernel
theorem dX7_fault_13 : decode cX7_fault 13 = .ok (.aload_n 0, 1) := by decide +kernel
theorem dX7_fault_14 : decode cX7_fault 14 = .ok (.invokevirtual 163, 3) := by decide +kernel
theorem dX7_fault_17 : decode cX7_fault 17 = .ok (.istore_n 2, 1) := by decide +kernel
theorem dX7_fault_18 : decode cX7_fault 18 = .ok (.iload_n 1, 1) := by decide +kernel
theorem dX7_fault_19 : decode cX7_fault 19 = .ok (.ifCond .ne 7, 3) := by decide +kernel
theorem dX7_fault_22 : decode cX7_fault 22 = .ok (.iload_n 2, 1) := by decide +kernel
theorem dX7_fault_23 : decode cX7_fault 23 = .ok (.goto 7, 3) := by decide +kernel
theorem dX7_fault_26 : decode cX7_fault 26 = .ok (.aload_n 0, 1) := by decide +kernel
theorem dX7_fault_27 : decode cX7_fault 27 = .ok (.getfield 146, 3) := by decide +kernel
theorem dX7_fault_30 : decode cX7_fault 30 = .ok (.ireturn, 1) := by decide +kernel
theorem dX7_list_0 : decode cX7_list 0 = .ok (.aload_n 0, 1) := by decide +kernel
theorem dX7_list_1 : decode cX7_list 1 = .ok (.invokevirtual 163, 3) := by decide +kernel
theorem dX7_list_4 : decode cX7_list 4 = .ok (.bipush (-9), 2) := by decide +kernel
theorem dX7_list_6 : decode cX7_list 6 = .ok (.if_icmp .eq 6, 3) := by decide +kernel
theorem dX7_list_9 : decode cX7_list 9 = .ok (.bipush (-3), 2) := by decide +kernel
theorem dX7_list_11 : decode cX7_list 11 = .ok (.ireturn, 1) := by decide +kernel
theorem dX7_list_12 : decode cX7_list 12 = .ok (.aload_n 0, 1) := by decide +kernel
theorem dX7_list_13 : decode cX7_list 13 = .ok (.aload_n 0, 1) := by decide +kernel
theorem dX7_list_14 : decode cX7_list 14 = .ok (.getfield 120, 3) := by decide +kernel
theorem dX7_list_17 : decode cX7_list 17 = .ok (.putfield 109, 3) := by decide +kernel
theorem dX7_list_20 : decode cX7_list 20 = .ok (.aload_n 0, 1) := by decide +kernel
theorem dX7_list_21 : decode cX7_list 21 = .ok (.aload_n 0, 1) := by decide +kernel
theorem dX7_list_22 : decode cX7_list 22 = .ok (.getfield 123, 3) := by decide +kernel
theorem dX7_list_25 : decode cX7_list 25 = .ok (.putfield 112, 3) := by decide +kernel
theorem dX7_list_28 : decode cX7_list 28 = .ok (.aload_n 0, 1) := by decide +kernel
theorem dX7_list_29 : decode cX7_list 29 = .ok (.aload_n 0, 1) := by decide +kernel
theorem dX7_list_30 : decode cX7_list 30 = .ok (.getfield 126, 3) := by decide +kernel
theorem dX7_list_33 : decode cX7_list 33 = .ok (.putfield 101, 3) := by decide +kernel
theorem dX7_list_36 : decode cX7_list 36 = .ok (.iconst 0, 1) := by decide +kernel
theorem dX7_list_37 : decode cX7_list 37 = .ok (.istore_n 1, 1) := by decide +kernel
theorem dX7_list_38 : decode cX7_list 38 = .ok (.iload_n 1, 1) := by decide +kernel
theorem dX7_list_39 : decode cX7_list 39 = .ok (.aload_n 0, 1) := by decide +kernel
theorem dX7_list_40 : decode cX7_list 40 = .ok (.getfield 109, 3) := by decide +kernel
theorem dX7_list_43 : decode cX7_list 43 = .ok (.if_icmp .ge 21, 3) := by decide +kernel
theorem dX7_list_46 : decode cX7_list 46 = .ok (.aload_n 0, 1) := by decide +kernel
theorem dX7_list_47 : decode cX7_list 47 = .ok (.getfield 29, 3) := by decide +kernel
theorem dX7_list_50 : decode cX7_list 50 = .ok (.iload_n 1, 1) := by decide +kernel
theorem dX7_list_51 : decode cX7_list 51 = .ok (.aload_n 0, 1) := by decide +kernel
theorem dX7_list_52 : decode cX7_list 52 = .ok (.getfield 35, 3) := by decide +kernel
theorem dX7_list_55 : decode cX7_list 55 = .ok (.iload_n 1, 1) := by decide +kernel
theorem dX7_list_56 : decode cX7_list 56 = .ok (.iaload, 1) := by decide +kernel
theorem dX7_list_57 : decode cX7_list 57 = .ok (.iastore, 1) := by decide +kernel
theorem dX7_list_58 : decode cX7_list 58 = .ok (.iinc 1 1, 3) := by decide +kernel
theorem dX7_list_61 : decode cX7_list 61 = .ok (.goto (-23), 3) := by decide +kernel
theorem dX7_list_64 : decode cX7_list 64 = .ok (.iconst 0, 1) := by decide +kernel
theorem dX7_list_65 : decode cX7_list 65 = .ok (.istore_n 1, 1) := by decide +kernel
theorem dX7_list_66 : decode cX7_list 66 = .ok (.iload_n 1, 1) := by decide +kernel
theorem dX7_list_67 : decode cX7_list 67 = .ok (.aload_n 0, 1) := by decide +kernel
theorem dX7_list_68 : decode cX7_list 68 = .ok (.getfield 112, 3) := by decide +kernel
theorem dX7_list_71 : decode cX7_list 71 = .ok (.if_icmp .ge 21, 3) := by decide +kernel
theorem dX7_list_74 : decode cX7_list 74 = .ok (.aload_n 0, 1) := by decide +kernel
theorem dX7_list_75 : decode cX7_list 75 = .ok (.getfield 32, 3) := by decide +kernel
theorem dX7_list_78 : decode cX7_list 78 = .ok (.iload_n 1, 1) := by decide +kernel
theorem dX7_list_79 : decode cX7_list 79 = .ok (.aload_n 0, 1) := by decide +kernel
theorem dX7_list_80 : decode cX7_list 80 = .ok (.getfield 38, 3) := by decide +kernel
theorem dX7_list_83 : decode cX7_list 83 = .ok (.iload_n 1, 1) := by decide +kernel
theorem dX7_list_84 : decode cX7_list 84 = .ok (.iaload, 1) := by decide +kernel
theorem dX7_list_85 : decode cX7_list 85 = .ok (.iastore, 1) := by decide +kernel
theorem dX7_list_86 : decode cX7_list 86 = .ok (.iinc 1 1, 3) := by decide +kernel
theorem dX7_list_89 : decode cX7_list 89 = .ok (.goto (-23), 3) := by decide +kernel
theorem dX7_list_92 : decode cX7_list 92 = .ok (.iconst 0, 1) := by decide +kernel
theorem dX7_list_93 : decode cX7_list 93 = .ok (.istore_n 1, 1) := by decide +kernel
theorem dX7_list_94 : decode cX7_list 94 = .ok (.iload_n 1, 1) := by decide +kernel
theorem dX7_list_95 : decode cX7_list 95 = .ok (.aload_n 0, 1) := by decide +kernel
theorem dX7_list_96 : decode cX7_list 96 = .ok (.getfield 101, 3) := by decide +kernel
theorem dX7_list_99 : decode cX7_list 99 = .ok (.if_icmp .ge 16, 3) := by decide +kernel
theorem dX7_list_102 : decode cX7_list 102 = .ok (.aload_n 0, 1) := by decide +kernel
theorem dX7_list_103 : decode cX7_list 103 = .ok (.getfield 13, 3) := by decide +kernel
theorem dX7_list_106 : decode cX7_list 106 = .ok (.iload_n 1, 1) := by decide +kernel
theorem dX7_list_107 : decode cX7_list 107 = .ok (.iload_n 1, 1) := by decide +kernel
theorem dX7_list_108 : decode cX7_list 108 = .ok (.iastore, 1) := by decide +kernel
theorem dX7_list_109 : decode cX7_list 109 = .ok (.iinc 1 1, 3) := by decide +kernel
theorem dX7_list_112 : decode cX7_list 112 = .ok (.goto (-18), 3) := by decide +kernel
theorem dX7_list_115 : decode cX7_list 115 = .ok (.iconst 0, 1) := by decide +kernel
theorem dX7_list_116 : decode cX7_list 116 = .ok (.istore_n 1, 1) := by decide +kernel
theorem dX7_list_117 : decode cX7_list 117 = .ok (.iload_n 1, 1) := by decide +kernel
theorem dX7_list_118 : decode cX7_list 118 = .ok (.iconst 4, 1) := by decide +kernel
theorem dX7_list_119 : decode cX7_list 119 = .ok (.aload_n 0, 1) := by decide +kernel
theorem dX7_list_120 : decode cX7_list 120 = .ok (.getfield 101, 3) := by decide +kernel
theorem dX7_list_123 : decode cX7_list 123 = .ok (.imul, 1) := by decide +kernel
theorem dX7_list_124 : decode cX7_list 124 = .ok (.if_icmp .ge 23, 3) := by decide +kernel
theorem dX7_list_127 : decode cX7_list 127 = .ok (.aload_n 0, 1) := by decide +kernel
theorem dX7_list_128 : decode cX7_list 128 = .ok (.getfield 13, 3) := by decide +kernel
theorem dX7_list_131 : decode cX7_list 131 = .ok (.iconst 4, 1) := by decide +kernel
theorem dX7_list_132 : decode cX7_list 132 = .ok (.iload_n 1, 1) := by decide +kernel
theorem dX7_list_133 : decode cX7_list 133 = .ok (.iadd, 1) := by decide +kernel
theorem dX7_list_134 : decode cX7_list 134 = .ok (.aload_n 0, 1) := by decide +kernel
theorem dX7_list_135 : decode cX7_list 135 = .ok (.getfield 41, 3) := by decide +kernel
theorem dX7_list_138 : decode cX7_list 138 = .ok (.iload_n 1, 1) := by decide +kernel
theorem dX7_list_139 : decode cX7_list 139 = .ok (.iaload, 1) := by decide +kernel
theorem dX7_list_140 : decode cX7_list 140 = .ok (.iastore, 1) := by decide +kernel
theorem dX7_list_141 : decode cX7_list 141 = .ok (.iinc 1 1, 3) := by decide +kernel
theorem dX7_list_144 : decode cX7_list 144 = .ok (.goto (-27), 3) := by decide +kernel
theorem dX7_list_147 : decode cX7_list 147 = .ok (.aload_n 0, 1) := by decide +kernel
theorem dX7_list_148 : decode cX7_list 148 = .ok (.invokevirtual 62, 3) := by decide +kernel
theorem dX7_list_151 : decode cX7_list 151 = .ok (.aload_n 0, 1) := by decide +kernel
theorem dX7_list_152 : decode cX7_list 152 = .ok (.iconst 0, 1) := by decide +kernel
theorem dX7_list_153 : decode cX7_list 153 = .ok (.putfield 167, 3) := by decide +kernel
theorem dX7_list_156 : decode cX7_list 156 = .ok (.aload_n 0, 1) := by decide +kernel
theorem dX7_list_157 : decode cX7_list 157 = .ok (.getfield 25, 3) := by decide +kernel
theorem dX7_list_160 : decode cX7_list 160 = .ok (.iconst 0, 1) := by decide +kernel
theorem dX7_list_161 : decode cX7_list 161 = .ok (.iconst 0, 1) := by decide +kernel
theorem dX7_list_162 : decode cX7_list 162 = .ok (.bastore, 1) := by decide +kernel
theorem dX7_list_163 : decode cX7_list 163 = .ok (.aload_n 0, 1) := by decide +kernel
theorem dX7_list_164 : decode cX7_list 164 = .ok (.getfield 25, 3) := by decide +kernel
theorem dX7_list_167 : decode cX7_list 167 = .ok (.iconst 1, 1) := by decide +kernel
theorem dX7_list_168 : decode cX7_list 168 = .ok (.iconst 0, 1) := by decide +kernel
theorem dX7_list_169 : decode cX7_list 169 = .ok (.bastore, 1) := by decide +kernel
theorem dX7_list_170 : decode cX7_list 170 = .ok (.aload_n 0, 1) := by decide +kernel
theorem dX7_list_171 : decode cX7_list 171 = .ok (.getfield 137, 3) := by decide +kernel
theorem dX7_list_174 : decode cX7_list 174 = .ok (.ireturn, 1) := by decide +kernel
theorem dX7_unlike_0 : decode cX7_unlike 0 = .ok (.iconst 0, 1) := by decide +kernel
theorem dX7_unlike_1 : decode cX7_unlike 1 = .ok (.istore_n 3, 1) := by decide +kernel
theorem dX7_unlike_2 : decode cX7_unlike 2 = .ok (.iconst 0, 1) := by decide +kernel
theorem dX7_unlike_3 : decode cX7_unlike 3 = .ok (.istore 4, 2) := by decide +kernel
theorem dX7_unlike_5 : decode cX7_unlike 5 = .ok (.iload 4, 2) := by decide +kernel
theorem dX7_unlike_7 : decode cX7_unlike 7 = .ok (.aload_n 0, 1) := by decide +kernel
theorem dX7_unlike_8 : decode cX7_unlike 8 = .ok (.getfield 109, 3) := by decide +kernel
theorem dX7_unlike_11 : decode cX7_unlike 11 = .ok (.aload_n 0, 1) := by decide +kernel
theorem dX7_unlike_12 : decode cX7_unlike 12 = .ok (.getfield 112, 3) := by decide +kernel
theorem dX7_unlike_15 : decode cX7_unlike 15 = .ok (.imul, 1) := by decide +kernel
theorem dX7_unlike_16 : decode cX7_unlike 16 = .ok (.if_icmp .ge 89, 3) := by decide +kernel
theorem dX7_unlike_19 : decode cX7_unlike 19 = .ok (.aload_n 0, 1) := by decide +kernel
theorem dX7_unlike_20 : decode cX7_unlike 20 = .ok (.aload_n 1, 1) := by decide +kernel
theorem dX7_unlike_21 : decode cX7_unlike 21 = .ok (.iload 4, 2) := by decide +kernel
theorem dX7_unlike_23 : decode cX7_unlike 23 = .ok (.aload_n 0, 1) := by decide +kernel
theorem dX7_unlike_24 : decode cX7_unlike 24 = .ok (.getfield 112, 3) := by decide +kernel
theorem dX7_unlike_27 : decode cX7_unlike 27 = .ok (.idiv, 1) := by decide +kernel
theorem dX7_unlike_28 : decode cX7_unlike 28 = .ok (.iload 4, 2) := by decide +kernel
theorem dX7_unlike_30 : decode cX7_unlike 30 = .ok (.aload_n 0, 1) := by decide +kernel
theorem dX7_unlike_31 : decode cX7_unlike 31 = .ok (.getfield 112, 3) := by decide +kernel
theorem dX7_unlike_34 : decode cX7_unlike 34 = .ok (.irem, 1) := by decide +kernel
theorem dX7_unlike_35 : decode cX7_unlike 35 = .ok (.iload_n 2, 1) := by decide +kernel
theorem dX7_unlike_36 : decode cX7_unlike 36 = .ok (.invokevirtual 170, 3) := by decide +kernel
theorem dX7_unlike_39 : decode cX7_unlike 39 = .ok (.istore 5, 2) := by decide +kernel
theorem dX7_unlike_41 : decode cX7_unlike 41 = .ok (.iconst 0, 1) := by decide +kernel
theorem dX7_unlike_42 : decode cX7_unlike 42 = .ok (.istore 6, 2) := by decide +kernel
theorem dX7_unlike_44 : decode cX7_unlike 44 = .ok (.iconst 0, 1) := by decide +kernel
theorem dX7_unlike_45 : decode cX7_unlike 45 = .ok (.istore 7, 2) := by decide +kernel
theorem dX7_unlike_47 : decode cX7_unlike 47 = .ok (.iload 7, 2) := by decide +kernel
theorem dX7_unlike_49 : decode cX7_unlike 49 = .ok (.iload_n 3, 1) := by decide +kernel
theorem dX7_unlike_50 : decode cX7_unlike 50 = .ok (.if_icmp .ge 33, 3) := by decide +kernel
theorem dX7_unlike_53 : decode cX7_unlike 53 = .ok (.iload 6, 2) := by decide +kernel
theorem dX7_unlike_55 : decode cX7_unlike 55 = .ok (.ifCond .ne 15, 3) := by decide +kernel
theorem dX7_unlike_58 : decode cX7_unlike 58 = .ok (.aload_n 0, 1) := by decide +kernel
theorem dX7_unlike_59 : decode cX7_unlike 59 = .ok (.getfield 56, 3) := by decide +kernel
theorem dX7_unlike_62 : decode cX7_unlike 62 = .ok (.iload 7, 2) := by decide +kernel
theorem dX7_unlike_64 : decode cX7_unlike 64 = .ok (.iaload, 1) := by decide +kernel
theorem dX7_unlike_65 : decode cX7_unlike 65 = .ok (.iload 5, 2) := by decide +kernel
theorem dX7_unlike_67 : decode cX7_unlike 67 = .ok (.if_icmp .ne 7, 3) := by decide +kernel
theorem dX7_unlike_70 : decode cX7_unlike 70 = .ok (.iconst 1, 1) := by decide +kernel
theorem dX7_unlike_71 : decode cX7_unlike 71 = .ok (.goto 4, 3) := by decide +kernel
theorem dX7_unlike_74 : decode cX7_unlike 74 = .ok (.iconst 0, 1) := by decide +kernel
theorem dX7_unlike_75 : decode cX7_unlike 75 = .ok (.istore 6, 2) := by decide +kernel
theorem dX7_unlike_77 : decode cX7_unlike 77 = .ok (.iinc 7 1, 3) := by decide +kernel
theorem dX7_unlike_80 : decode cX7_unlike 80 = .ok (.goto (-33), 3) := by decide +kernel
theorem dX7_unlike_83 : decode cX7_unlike 83 = .ok (.iload 6, 2) := by decide +kernel
theorem dX7_unlike_85 : decode cX7_unlike 85 = .ok (.ifCond .ne 14, 3) := by decide +kernel
theorem dX7_unlike_88 : decode cX7_unlike 88 = .ok (.aload_n 0, 1) := by decide +kernel
theorem dX7_unlike_89 : decode cX7_unlike 89 = .ok (.getfield 56, 3) := by decide +kernel
theorem dX7_unlike_92 : decode cX7_unlike 92 = .ok (.iload_n 3, 1) := by decide +kernel
theorem dX7_unlike_93 : decode cX7_unlike 93 = .ok (.iload 5, 2) := by decide +kernel
theorem dX7_unlike_95 : decode cX7_unlike 95 = .ok (.iastore, 1) := by decide +kernel
theorem dX7_unlike_96 : decode cX7_unlike 96 = .ok (.iinc 3 1, 3) := by decide +kernel
theorem dX7_unlike_99 : decode cX7_unlike 99 = .ok (.iinc 4 1, 3) := by decide +kernel
theorem dX7_unlike_102 : decode cX7_unlike 102 = .ok (.goto (-97), 3) := by decide +kernel
theorem dX7_unlike_105 : decode cX7_unlike 105 = .ok (.iload_n 3, 1) := by decide +kernel
theorem dX7_unlike_106 : decode cX7_unlike 106 = .ok (.ireturn, 1) := by decide +kernel
theorem dX7_active_0 : decode cX7_active 0 = .ok (.iconst 0, 1) := by decide +kernel
theorem dX7_active_1 : decode cX7_active 1 = .ok (.istore_n 2, 1) := by decide +kernel
theorem dX7_active_2 : decode cX7_active 2 = .ok (.iconst 0, 1) := by decide +kernel
theorem dX7_active_3 : decode cX7_active 3 = .ok (.istore_n 3, 1) := by decide +kernel
theorem dX7_active_4 : decode cX7_active 4 = .ok (.iload_n 3, 1) := by decide +kernel
theorem dX7_active_5 : decode cX7_active 5 = .ok (.aload_n 0, 1) := by decide +kernel
theorem dX7_active_6 : decode cX7_active 6 = .ok (.getfield 109, 3) := by decide +kernel
theorem dX7_active_9 : decode cX7_active 9 = .ok (.aload_n 0, 1) := by decide +kernel
theorem dX7_active_10 : decode cX7_active 10 = .ok (.getfield 112, 3) := by decide +kernel
theorem dX7_active_13 : decode cX7_active 13 = .ok (.imul, 1) := by decide +kernel
theorem dX7_active_14 : decode cX7_active 14 = .ok (.if_icmp .ge 81, 3) := by decide +kernel
theorem dX7_active_17 : decode cX7_active 17 = .ok (.aload_n 0, 1) := by decide +kernel
theorem dX7_active_18 : decode cX7_active 18 = .ok (.iload_n 3, 1) := by decide +kernel
theorem dX7_active_19 : decode cX7_active 19 = .ok (.aload_n 0, 1) := by decide +kernel
theorem dX7_active_20 : decode cX7_active 20 = .ok (.getfield 112, 3) := by decide +kernel
theorem dX7_active_23 : decode cX7_active 23 = .ok (.idiv, 1) := by decide +kernel
theorem dX7_active_24 : decode cX7_active 24 = .ok (.iload_n 3, 1) := by decide +kernel
theorem dX7_active_25 : decode cX7_active 25 = .ok (.aload_n 0, 1) := by decide +kernel
theorem dX7_active_26 : decode cX7_active 26 = .ok (.getfield 112, 3) := by decide +kernel
theorem dX7_active_29 : decode cX7_active 29 = .ok (.irem, 1) := by decide +kernel
theorem dX7_active_30 : decode cX7_active 30 = .ok (.invokevirtual 98, 3) := by decide +kernel
theorem dX7_active_33 : decode cX7_active 33 = .ok (.istore 4, 2) := by decide +kernel
theorem dX7_active_35 : decode cX7_active 35 = .ok (.iconst 0, 1) := by decide +kernel
theorem dX7_active_36 : decode cX7_active 36 = .ok (.istore 5, 2) := by decide +kernel
theorem dX7_active_38 : decode cX7_active 38 = .ok (.iload 5, 2) := by decide +kernel
theorem dX7_active_40 : decode cX7_active 40 = .ok (.aload_n 0, 1) := by decide +kernel
theorem dX7_active_41 : decode cX7_active 41 = .ok (.getfield 101, 3) := by decide +kernel
theorem dX7_active_44 : decode cX7_active 44 = .ok (.if_icmp .ge 45, 3) := by decide +kernel
theorem dX7_active_47 : decode cX7_active 47 = .ok (.aload_n 1, 1) := by decide +kernel
theorem dX7_active_48 : decode cX7_active 48 = .ok (.aload_n 1, 1) := by decide +kernel
theorem dX7_active_49 : decode cX7_active 49 = .ok (.iload 5, 2) := by decide +kernel
theorem dX7_active_51 : decode cX7_active 51 = .ok (.iaload, 1) := by decide +kernel
theorem dX7_active_52 : decode cX7_active 52 = .ok (.iload 4, 2) := by decide +kernel
theorem dX7_active_54 : decode cX7_active 54 = .ok (.invokestatic 91, 3) := by decide +kernel
theorem dX7_active_57 : decode cX7_active 57 = .ok (.istore 6, 2) := by decide +kernel
theorem dX7_active_59 : decode cX7_active 59 = .ok (.iload_n 2, 1) := by decide +kernel
theorem dX7_active_60 : decode cX7_active 60 = .ok (.iload 6, 2) := by decide +kernel
theorem dX7_active_62 : decode cX7_active 62 = .ok (.iload 4, 2) := by decide +kernel
theorem dX7_active_64 : decode cX7_active 64 = .ok (.if_icmp .ne 7, 3) := by decide +kernel
theorem dX7_active_67 : decode cX7_active 67 = .ok (.iconst 0, 1) := by decide +kernel
theorem dX7_active_68 : decode cX7_active 68 = .ok (.goto 9, 3) := by decide +kernel
theorem dX7_active_71 : decode cX7_active 71 = .ok (.iconst 1, 1) := by decide +kernel
theorem dX7_active_72 : decode cX7_active 72 = .ok (.aload_n 1, 1) := by decide +kernel
theorem dX7_active_73 : decode cX7_active 73 = .ok (.iload 5, 2) := by decide +kernel
theorem dX7_active_75 : decode cX7_active 75 = .ok (.iaload, 1) := by decide +kernel
theorem dX7_active_76 : decode cX7_active 76 = .ok (.ishl, 1) := by decide +kernel
theorem dX7_active_77 : decode cX7_active 77 = .ok (.ior, 1) := by decide +kernel
theorem dX7_active_78 : decode cX7_active 78 = .ok (.istore_n 2, 1) := by decide +kernel
theorem dX7_active_79 : decode cX7_active 79 = .ok (.iload 6, 2) := by decide +kernel
theorem dX7_active_81 : decode cX7_active 81 = .ok (.istore 4, 2) := by decide +kernel
theorem dX7_active_83 : decode cX7_active 83 = .ok (.iinc 5 1, 3) := by decide +kernel
theorem dX7_active_86 : decode cX7_active 86 = .ok (.goto (-48), 3) := by decide +kernel
theorem dX7_active_89 : decode cX7_active 89 = .ok (.iinc 3 1, 3) := by decide +kernel
theorem dX7_active_92 : decode cX7_active 92 = .ok (.goto (-88), 3) := by decide +kernel
theorem dX7_active_95 : decode cX7_active 95 = .ok (.iload_n 2, 1) := by decide +kernel
theorem dX7_active_96 : decode cX7_active 96 = .ok (.ireturn, 1) := by decide +kernel
theorem dX7_exceptions_0 : decode cX7_exceptions 0 = .ok (.iconst 0, 1) := by decide +kernel
theorem dX7_exceptions_1 : decode cX7_exceptions 1 = .ok (.istore_n 2, 1) := by decide +kernel
theorem dX7_exceptions_2 : decode cX7_exceptions 2 = .ok (.iconst 0, 1) := by decide +kernel
theorem dX7_exceptions_3 : decode cX7_exceptions 3 = .ok (.istore_n 3, 1) := by decide +kernel
theorem dX7_exceptions_4 : decode cX7_exceptions 4 = .ok (.iload_n 3, 1) := by decide +kernel
theorem dX7_exceptions_5 : decode cX7_exceptions 5 = .ok (.aload_n 0, 1) := by decide +kernel
theorem dX7_exceptions_6 : decode cX7_exceptions 6 = .ok (.getfield 109, 3) := by decide +kernel
theorem dX7_exceptions_9 : decode cX7_exceptions 9 = .ok (.if_icmp .ge 70, 3) := by decide +kernel
theorem dX7_exceptions_12 : decode cX7_exceptions 12 = .ok (.iconst 0, 1) := by decide +kernel
theorem dX7_exceptions_13 : decode cX7_exceptions 13 = .ok (.istore 4, 2) := by decide +kernel
theorem dX7_exceptions_15 : decode cX7_exceptions 15 = .ok (.iload 4, 2) := by decide +kernel
theorem dX7_exceptions_17 : decode cX7_exceptions 17 = .ok (.aload_n 0, 1) := by decide +kernel
theorem dX7_exceptions_18 : decode cX7_exceptions 18 = .ok (.getfield 112, 3) := by decide +kernel
theorem dX7_exceptions_21 : decode cX7_exceptions 21 = .ok (.if_icmp .ge 52, 3) := by decide +kernel
theorem dX7_exceptions_24 : decode cX7_exceptions 24 = .ok (.aload_n 1, 1) := by decide +kernel
theorem dX7_exceptions_25 : decode cX7_exceptions 25 = .ok (.bipush 20, 2) := by decide +kernel
theorem dX7_exceptions_27 : decode cX7_exceptions 27 = .ok (.iconst 3, 1) := by decide +kernel
theorem dX7_exceptions_28 : decode cX7_exceptions 28 = .ok (.iload_n 3, 1) := by decide +kernel
theorem dX7_exceptions_29 : decode cX7_exceptions 29 = .ok (.imul, 1) := by decide +kernel
theorem dX7_exceptions_30 : decode cX7_exceptions 30 = .ok (.iadd, 1) := by decide +kernel
theorem dX7_exceptions_31 : decode cX7_exceptions 31 = .ok (.iload 4, 2) := by decide +kernel
theorem dX7_exceptions_33 : decode cX7_exceptions 33 = .ok (.iadd, 1) := by decide +kernel
theorem dX7_exceptions_34 : decode cX7_exceptions 34 = .ok (.iaload, 1) := by decide +kernel
theorem dX7_exceptions_35 : decode cX7_exceptions 35 = .ok (.istore 5, 2) := by decide +kernel
theorem dX7_exceptions_37 : decode cX7_exceptions 37 = .ok (.iload_n 2, 1) := by decide +kernel
theorem dX7_exceptions_38 : decode cX7_exceptions 38 = .ok (.iload 5, 2) := by decide +kernel
theorem dX7_exceptions_40 : decode cX7_exceptions 40 = .ok (.bipush (-9), 2) := by decide +kernel
theorem dX7_exceptions_42 : decode cX7_exceptions 42 = .ok (.if_icmp .eq 22, 3) := by decide +kernel
theorem dX7_exceptions_45 : decode cX7_exceptions 45 = .ok (.iload 5, 2) := by decide +kernel
theorem dX7_exceptions_47 : decode cX7_exceptions 47 = .ok (.aload_n 0, 1) := by decide +kernel
theorem dX7_exceptions_48 : decode cX7_exceptions 48 = .ok (.aload_n 1, 1) := by decide +kernel
theorem dX7_exceptions_49 : decode cX7_exceptions 49 = .ok (.iload_n 3, 1) := by decide +kernel
theorem dX7_exceptions_50 : decode cX7_exceptions 50 = .ok (.iload 4, 2) := by decide +kernel
theorem dX7_exceptions_52 : decode cX7_exceptions 52 = .ok (.bipush 15, 2) := by decide +kernel
theorem dX7_exceptions_54 : decode cX7_exceptions 54 = .ok (.invokevirtual 170, 3) := by decide +kernel
theorem dX7_exceptions_57 : decode cX7_exceptions 57 = .ok (.if_icmp .eq 7, 3) := by decide +kernel
theorem dX7_exceptions_60 : decode cX7_exceptions 60 = .ok (.iconst 1, 1) := by decide +kernel
theorem dX7_exceptions_61 : decode cX7_exceptions 61 = .ok (.goto 4, 3) := by decide +kernel
theorem dX7_exceptions_64 : decode cX7_exceptions 64 = .ok (.iconst 0, 1) := by decide +kernel
theorem dX7_exceptions_65 : decode cX7_exceptions 65 = .ok (.iadd, 1) := by decide +kernel
theorem dX7_exceptions_66 : decode cX7_exceptions 66 = .ok (.istore_n 2, 1) := by decide +kernel
theorem dX7_exceptions_67 : decode cX7_exceptions 67 = .ok (.iinc 4 1, 3) := by decide +kernel
theorem dX7_exceptions_70 : decode cX7_exceptions 70 = .ok (.goto (-55), 3) := by decide +kernel
theorem dX7_exceptions_73 : decode cX7_exceptions 73 = .ok (.iinc 3 1, 3) := by decide +kernel
theorem dX7_exceptions_76 : decode cX7_exceptions 76 = .ok (.goto (-72), 3) := by decide +kernel
theorem dX7_exceptions_79 : decode cX7_exceptions 79 = .ok (.iload_n 2, 1) := by decide +kernel
theorem dX7_exceptions_80 : decode cX7_exceptions 80 = .ok (.ireturn, 1) := by decide +kernel
theorem dX7_manyForms_0 : decode cX7_manyForms 0 = .ok (.iconst 0, 1) := by decide +kernel
theorem dX7_manyForms_1 : decode cX7_manyForms 1 = .ok (.istore_n 1, 1) := by decide +kernel
theorem dX7_manyForms_2 : decode cX7_manyForms 2 = .ok (.bipush 20, 2) := by decide +kernel
theorem dX7_manyForms_4 : decode cX7_manyForms 4 = .ok (.istore_n 2, 1) := by decide +kernel
theorem dX7_manyForms_5 : decode cX7_manyForms 5 = .ok (.iload_n 2, 1) := by decide +kernel
theorem dX7_manyForms_6 : decode cX7_manyForms 6 = .ok (.bipush 32, 2) := by decide +kernel
theorem dX7_manyForms_8 : decode cX7_manyForms 8 = .ok (.if_icmp .ge 28, 3) := by decide +kernel
theorem dX7_manyForms_11 : decode cX7_manyForms 11 = .ok (.iload_n 1, 1) := by decide +kernel
theorem dX7_manyForms_12 : decode cX7_manyForms 12 = .ok (.aload_n 0, 1) := by decide +kernel
theorem dX7_manyForms_13 : decode cX7_manyForms 13 = .ok (.getfield 13, 3) := by decide +kernel
theorem dX7_manyForms_16 : decode cX7_manyForms 16 = .ok (.iload_n 2, 1) := by decide +kernel
theorem dX7_manyForms_17 : decode cX7_manyForms 17 = .ok (.iaload, 1) := by decide +kernel
theorem dX7_manyForms_18 : decode cX7_manyForms 18 = .ok (.bipush (-9), 2) := by decide +kernel
theorem dX7_manyForms_20 : decode cX7_manyForms 20 = .ok (.if_icmp .ne 7, 3) := by decide +kernel
theorem dX7_manyForms_23 : decode cX7_manyForms 23 = .ok (.iconst 0, 1) := by decide +kernel
theorem dX7_manyForms_24 : decode cX7_manyForms 24 = .ok (.goto 4, 3) := by decide +kernel
theorem dX7_manyForms_27 : decode cX7_manyForms 27 = .ok (.iconst 1, 1) := by decide +kernel
theorem dX7_manyForms_28 : decode cX7_manyForms 28 = .ok (.iadd, 1) := by decide +kernel
theorem dX7_manyForms_29 : decode cX7_manyForms 29 = .ok (.istore_n 1, 1) := by decide +kernel
theorem dX7_manyForms_30 : decode cX7_manyForms 30 = .ok (.iinc 2 1, 3) := by decide +kernel
theorem dX7_manyForms_33 : decode cX7_manyForms 33 = .ok (.goto (-28), 3) := by decide +kernel
theorem dX7_manyForms_36 : decode cX7_manyForms 36 = .ok (.iload_n 1, 1) := by decide +kernel
theorem dX7_manyForms_37 : decode cX7_manyForms 37 = .ok (.ireturn, 1) := by decide +kernel
theorem dX7_about_0 : decode cX7_about 0 = .ok (.iload_n 1, 1) := by decide +kernel
theorem dX7_about_1 : decode cX7_about 1 = .ok (.tableswitch 119 0 9 #[55, 60, 65, 70, 81, 90, 99, 104, 109, 114], 55) := by decide +kernel
theorem dX7_about_56 : decode cX7_about 56 = .ok (.aload_n 0, 1) := by decide +kernel
theorem dX7_about_57 : decode cX7_about 57 = .ok (.getfield 109, 3) := by decide +kernel
theorem dX7_about_60 : decode cX7_about 60 = .ok (.ireturn, 1) := by decide +kernel
theorem dX7_about_61 : decode cX7_about 61 = .ok (.aload_n 0, 1) := by decide +kernel
theorem dX7_about_62 : decode cX7_about 62 = .ok (.getfield 112, 3) := by decide +kernel
theorem dX7_about_65 : decode cX7_about 65 = .ok (.ireturn, 1) := by decide +kernel
theorem dX7_about_66 : decode cX7_about 66 = .ok (.aload_n 0, 1) := by decide +kernel
theorem dX7_about_67 : decode cX7_about 67 = .ok (.getfield 101, 3) := by decide +kernel
theorem dX7_about_70 : decode cX7_about 70 = .ok (.ireturn, 1) := by decide +kernel
theorem dX7_about_71 : decode cX7_about 71 = .ok (.aload_n 0, 1) := by decide +kernel
theorem dX7_about_72 : decode cX7_about 72 = .ok (.aload_n 0, 1) := by decide +kernel
theorem dX7_about_73 : decode cX7_about 73 = .ok (.getfield 13, 3) := by decide +kernel
theorem dX7_about_76 : decode cX7_about 76 = .ok (.bipush 15, 2) := by decide +kernel
theorem dX7_about_78 : decode cX7_about 78 = .ok (.invokevirtual 173, 3) := by decide +kernel
theorem dX7_about_81 : decode cX7_about 81 = .ok (.ireturn, 1) := by decide +kernel
theorem dX7_about_82 : decode cX7_about 82 = .ok (.aload_n 0, 1) := by decide +kernel
theorem dX7_about_83 : decode cX7_about 83 = .ok (.aload_n 0, 1) := by decide +kernel
theorem dX7_about_84 : decode cX7_about 84 = .ok (.getfield 13, 3) := by decide +kernel
theorem dX7_about_87 : decode cX7_about 87 = .ok (.invokevirtual 177, 3) := by decide +kernel
theorem dX7_about_90 : decode cX7_about 90 = .ok (.ireturn, 1) := by decide +kernel
theorem dX7_about_91 : decode cX7_about 91 = .ok (.aload_n 0, 1) := by decide +kernel
theorem dX7_about_92 : decode cX7_about 92 = .ok (.aload_n 0, 1) := by decide +kernel
theorem dX7_about_93 : decode cX7_about 93 = .ok (.getfield 13, 3) := by decide +kernel
theorem dX7_about_96 : decode cX7_about 96 = .ok (.invokevirtual 181, 3) := by decide +kernel
theorem dX7_about_99 : decode cX7_about 99 = .ok (.ireturn, 1) := by decide +kernel
theorem dX7_about_100 : decode cX7_about 100 = .ok (.aload_n 0, 1) := by decide +kernel
theorem dX7_about_101 : decode cX7_about 101 = .ok (.invokevirtual 184, 3) := by decide +kernel
theorem dX7_about_104 : decode cX7_about 104 = .ok (.ireturn, 1) := by decide +kernel
theorem dX7_about_105 : decode cX7_about 105 = .ok (.aload_n 0, 1) := by decide +kernel
theorem dX7_about_106 : decode cX7_about 106 = .ok (.getfield 167, 3) := by decide +kernel
theorem dX7_about_109 : decode cX7_about 109 = .ok (.ireturn, 1) := by decide +kernel
theorem dX7_about_110 : decode cX7_about 110 = .ok (.aload_n 0, 1) := by decide +kernel
theorem dX7_about_111 : decode cX7_about 111 = .ok (.getfield 187, 3) := by decide +kernel
theorem dX7_about_114 : decode cX7_about 114 = .ok (.ireturn, 1) := by decide +kernel
theorem dX7_about_115 : decode cX7_about 115 = .ok (.aload_n 0, 1) := by decide +kernel
theorem dX7_about_116 : decode cX7_about 116 = .ok (.getfield 117, 3) := by decide +kernel
theorem dX7_about_119 : decode cX7_about 119 = .ok (.ireturn, 1) := by decide +kernel
theorem dX7_about_120 : decode cX7_about 120 = .ok (.bipush (-2), 2) := by decide +kernel
theorem dX7_about_122 : decode cX7_about 122 = .ok (.ireturn, 1) := by decide +kernel
theorem dX7_part_0 : decode cX7_part 0 = .ok (.iload_n 1, 1) := by decide +kernel
theorem dX7_part_1 : decode cX7_part 1 = .ok (.ifCond .ne 22, 3) := by decide +kernel
theorem dX7_part_4 : decode cX7_part 4 = .ok (.aload_n 0, 1) := by decide +kernel
theorem dX7_part_5 : decode cX7_part 5 = .ok (.iload_n 2, 1) := by decide +kernel
theorem dX7_part_6 : decode cX7_part 6 = .ok (.invokevirtual 190, 3) := by decide +kernel
theorem dX7_part_9 : decode cX7_part 9 = .ok (.ifCond .eq 12, 3) := by decide +kernel
theorem dX7_part_12 : decode cX7_part 12 = .ok (.aload_n 0, 1) := by decide +kernel
theorem dX7_part_13 : decode cX7_part 13 = .ok (.getfield 29, 3) := by decide +kernel
theorem dX7_part_16 : decode cX7_part 16 = .ok (.iload_n 2, 1) := by decide +kernel
theorem dX7_part_17 : decode cX7_part 17 = .ok (.iaload, 1) := by decide +kernel
theorem dX7_part_18 : decode cX7_part 18 = .ok (.goto 4, 3) := by decide +kernel
theorem dX7_part_21 : decode cX7_part 21 = .ok (.iconst (-1), 1) := by decide +kernel
theorem dX7_part_22 : decode cX7_part 22 = .ok (.ireturn, 1) := by decide +kernel
theorem dX7_part_23 : decode cX7_part 23 = .ok (.iload_n 1, 1) := by decide +kernel
theorem dX7_part_24 : decode cX7_part 24 = .ok (.iconst 1, 1) := by decide +kernel
theorem dX7_part_25 : decode cX7_part 25 = .ok (.if_icmp .ne 22, 3) := by decide +kernel
theorem dX7_part_28 : decode cX7_part 28 = .ok (.aload_n 0, 1) := by decide +kernel
theorem dX7_part_29 : decode cX7_part 29 = .ok (.iload_n 2, 1) := by decide +kernel
theorem dX7_part_30 : decode cX7_part 30 = .ok (.invokevirtual 193, 3) := by decide +kernel
theorem dX7_part_33 : decode cX7_part 33 = .ok (.ifCond .eq 12, 3) := by decide +kernel
theorem dX7_part_36 : decode cX7_part 36 = .ok (.aload_n 0, 1) := by decide +kernel
theorem dX7_part_37 : decode cX7_part 37 = .ok (.getfield 32, 3) := by decide +kernel
theorem dX7_part_40 : decode cX7_part 40 = .ok (.iload_n 2, 1) := by decide +kernel
theorem dX7_part_41 : decode cX7_part 41 = .ok (.iaload, 1) := by decide +kernel
theorem dX7_part_42 : decode cX7_part 42 = .ok (.goto 4, 3) := by decide +kernel
theorem dX7_part_45 : decode cX7_part 45 = .ok (.iconst (-1), 1) := by decide +kernel
theorem dX7_part_46 : decode cX7_part 46 = .ok (.ireturn, 1) := by decide +kernel
theorem dX7_part_47 : decode cX7_part 47 = .ok (.bipush (-2), 2) := by decide +kernel
theorem dX7_part_49 : decode cX7_part 49 = .ok (.ireturn, 1) := by decide +kernel
theorem dX7_sign_0 : decode cX7_sign 0 = .ok (.aload_n 0, 1) := by decide +kernel
theorem dX7_sign_1 : decode cX7_sign 1 = .ok (.iload_n 1, 1) := by decide +kernel
theorem dX7_sign_2 : decode cX7_sign 2 = .ok (.invokevirtual 196, 3) := by decide +kernel
theorem dX7_sign_5 : decode cX7_sign 5 = .ok (.ifCond .ne 5, 3) := by decide +kernel
theorem dX7_sign_8 : decode cX7_sign 8 = .ok (.iconst (-1), 1) := by decide +kernel
theorem dX7_sign_9 : decode cX7_sign 9 = .ok (.ireturn, 1) := by decide +kernel
theorem dX7_sign_10 : decode cX7_sign 10 = .ok (.iload_n 2, 1) := by decide +kernel
theorem dX7_sign_11 : decode cX7_sign 11 = .ok (.i2l, 1) := by decide +kernel
theorem dX7_sign_12 : decode cX7_sign 12 = .ok (.lconst 0, 1) := by decide +kernel
theorem dX7_sign_13 : decode cX7_sign 13 = .ok (.ldc2_w 199, 3) := by decide +kernel
theorem dX7_sign_16 : decode cX7_sign 16 = .ok (.invokestatic 78, 3) := by decide +kernel
theorem dX7_sign_19 : decode cX7_sign 19 = .ok (.ifCond .eq 18, 3) := by decide +kernel
theorem dX7_sign_22 : decode cX7_sign 22 = .ok (.aload_n 0, 1) := by decide +kernel
theorem dX7_sign_23 : decode cX7_sign 23 = .ok (.getfield 13, 3) := by decide +kernel
theorem dX7_sign_26 : decode cX7_sign 26 = .ok (.iconst 4, 1) := by decide +kernel
theorem dX7_sign_27 : decode cX7_sign 27 = .ok (.iconst 4, 1) := by decide +kernel
theorem dX7_sign_28 : decode cX7_sign 28 = .ok (.iload_n 1, 1) := by decide +kernel
theorem dX7_sign_29 : decode cX7_sign 29 = .ok (.imul, 1) := by decide +kernel
theorem dX7_sign_30 : decode cX7_sign 30 = .ok (.iadd, 1) := by decide +kernel
theorem dX7_sign_31 : decode cX7_sign 31 = .ok (.iload_n 2, 1) := by decide +kernel
theorem dX7_sign_32 : decode cX7_sign 32 = .ok (.iadd, 1) := by decide +kernel
theorem dX7_sign_33 : decode cX7_sign 33 = .ok (.iaload, 1) := by decide +kernel
theorem dX7_sign_34 : decode cX7_sign 34 = .ok (.goto 5, 3) := by decide +kernel
theorem dX7_sign_37 : decode cX7_sign 37 = .ok (.bipush (-2), 2) := by decide +kernel
theorem dX7_sign_39 : decode cX7_sign 39 = .ok (.ireturn, 1) := by decide +kernel
theorem dX7_order_0 : decode cX7_order 0 = .ok (.aload_n 0, 1) := by decide +kernel
theorem dX7_order_1 : decode cX7_order 1 = .ok (.iload_n 1, 1) := by decide +kernel
theorem dX7_order_2 : decode cX7_order 2 = .ok (.invokevirtual 196, 3) := by decide +kernel
theorem dX7_order_5 : decode cX7_order 5 = .ok (.ifCond .eq 12, 3) := by decide +kernel
theorem dX7_order_8 : decode cX7_order 8 = .ok (.aload_n 0, 1) := by decide +kernel
theorem dX7_order_9 : decode cX7_order 9 = .ok (.getfield 13, 3) := by decide +kernel
theorem dX7_order_12 : decode cX7_order 12 = .ok (.iload_n 1, 1) := by decide +kernel
theorem dX7_order_13 : decode cX7_order 13 = .ok (.iaload, 1) := by decide +kernel
theorem dX7_order_14 : decode cX7_order 14 = .ok (.goto 4, 3) := by decide +kernel
theorem dX7_order_17 : decode cX7_order 17 = .ok (.iconst (-1), 1) := by decide +kernel
theorem dX7_order_18 : decode cX7_order 18 = .ok (.ireturn, 1) := by decide +kernel
theorem dX7_made_0 : decode cX7_made 0 = .ok (.aload_n 0, 1) := by decide +kernel
theorem dX7_made_1 : decode cX7_made 1 = .ok (.iload_n 1, 1) := by decide +kernel
theorem dX7_made_2 : decode cX7_made 2 = .ok (.invokevirtual 190, 3) := by decide +kernel
theorem dX7_made_5 : decode cX7_made 5 = .ok (.ifCond .eq 26, 3) := by decide +kernel
theorem dX7_made_8 : decode cX7_made 8 = .ok (.aload_n 0, 1) := by decide +kernel
theorem dX7_made_9 : decode cX7_made 9 = .ok (.iload_n 2, 1) := by decide +kernel
theorem dX7_made_10 : decode cX7_made 10 = .ok (.invokevirtual 193, 3) := by decide +kernel
theorem dX7_made_13 : decode cX7_made 13 = .ok (.ifCond .eq 18, 3) := by decide +kernel
theorem dX7_made_16 : decode cX7_made 16 = .ok (.aload_n 0, 1) := by decide +kernel
theorem dX7_made_17 : decode cX7_made 17 = .ok (.aload_n 0, 1) := by decide +kernel
theorem dX7_made_18 : decode cX7_made 18 = .ok (.getfield 13, 3) := by decide +kernel
theorem dX7_made_21 : decode cX7_made 21 = .ok (.iload_n 1, 1) := by decide +kernel
theorem dX7_made_22 : decode cX7_made 22 = .ok (.iload_n 2, 1) := by decide +kernel
theorem dX7_made_23 : decode cX7_made 23 = .ok (.bipush 15, 2) := by decide +kernel
theorem dX7_made_25 : decode cX7_made 25 = .ok (.invokevirtual 170, 3) := by decide +kernel
theorem dX7_made_28 : decode cX7_made 28 = .ok (.goto 4, 3) := by decide +kernel
theorem dX7_made_31 : decode cX7_made 31 = .ok (.iconst (-1), 1) := by decide +kernel
theorem dX7_made_32 : decode cX7_made 32 = .ok (.ireturn, 1) := by decide +kernel
theorem dX7_step_0 : decode cX7_step 0 = .ok (.aload_n 0, 1) := by decide +kernel
theorem dX7_step_1 : decode cX7_step 1 = .ok (.iload_n 1, 1) := by decide +kernel
theorem dX7_step_2 : decode cX7_step 2 = .ok (.invokevirtual 190, 3) := by decide +kernel
theorem dX7_step_5 : decode cX7_step 5 = .ok (.ifCond .eq 11, 3) := by decide +kernel
theorem dX7_step_8 : decode cX7_step 8 = .ok (.aload_n 0, 1) := by decide +kernel
theorem dX7_step_9 : decode cX7_step 9 = .ok (.iload_n 2, 1) := by decide +kernel
theorem dX7_step_10 : decode cX7_step 10 = .ok (.invokevirtual 193, 3) := by decide +kernel
theorem dX7_step_13 : decode cX7_step 13 = .ok (.ifCond .ne 5, 3) := by decide +kernel
theorem dX7_step_16 : decode cX7_step 16 = .ok (.iconst (-1), 1) := by decide +kernel
theorem dX7_step_17 : decode cX7_step 17 = .ok (.ireturn, 1) := by decide +kernel
theorem dX7_step_18 : decode cX7_step 18 = .ok (.iload_n 3, 1) := by decide +kernel
theorem dX7_step_19 : decode cX7_step 19 = .ok (.i2l, 1) := by decide +kernel
theorem dX7_step_20 : decode cX7_step 20 = .ok (.lconst 0, 1) := by decide +kernel
theorem dX7_step_21 : decode cX7_step 21 = .ok (.aload_n 0, 1) := by decide +kernel
theorem dX7_step_22 : decode cX7_step 22 = .ok (.getfield 101, 3) := by decide +kernel
theorem dX7_step_25 : decode cX7_step 25 = .ok (.i2l, 1) := by decide +kernel
theorem dX7_step_26 : decode cX7_step 26 = .ok (.invokestatic 78, 3) := by decide +kernel
theorem dX7_step_29 : decode cX7_step 29 = .ok (.ifCond .eq 22, 3) := by decide +kernel
theorem dX7_step_32 : decode cX7_step 32 = .ok (.aload_n 0, 1) := by decide +kernel
theorem dX7_step_33 : decode cX7_step 33 = .ok (.getfield 13, 3) := by decide +kernel
theorem dX7_step_36 : decode cX7_step 36 = .ok (.aload_n 0, 1) := by decide +kernel
theorem dX7_step_37 : decode cX7_step 37 = .ok (.iload_n 1, 1) := by decide +kernel
theorem dX7_step_38 : decode cX7_step 38 = .ok (.iload_n 2, 1) := by decide +kernel
theorem dX7_step_39 : decode cX7_step 39 = .ok (.invokevirtual 98, 3) := by decide +kernel
theorem dX7_step_42 : decode cX7_step 42 = .ok (.iload_n 3, 1) := by decide +kernel
theorem dX7_step_43 : decode cX7_step 43 = .ok (.bipush 15, 2) := by decide +kernel
theorem dX7_step_45 : decode cX7_step 45 = .ok (.invokestatic 105, 3) := by decide +kernel
theorem dX7_step_48 : decode cX7_step 48 = .ok (.goto 5, 3) := by decide +kernel
theorem dX7_step_51 : decode cX7_step 51 = .ok (.bipush (-2), 2) := by decide +kernel
theorem dX7_step_53 : decode cX7_step 53 = .ok (.ireturn, 1) := by decide +kernel
theorem dX7_apart_0 : decode cX7_apart 0 = .ok (.iload_n 1, 1) := by decide +kernel
theorem dX7_apart_1 : decode cX7_apart 1 = .ok (.invokestatic 201, 3) := by decide +kernel
theorem dX7_apart_4 : decode cX7_apart 4 = .ok (.ifCond .eq 13, 3) := by decide +kernel
theorem dX7_apart_7 : decode cX7_apart 7 = .ok (.iload_n 2, 1) := by decide +kernel
theorem dX7_apart_8 : decode cX7_apart 8 = .ok (.i2l, 1) := by decide +kernel
theorem dX7_apart_9 : decode cX7_apart 9 = .ok (.lconst 0, 1) := by decide +kernel
theorem dX7_apart_10 : decode cX7_apart 10 = .ok (.lconst 1, 1) := by decide +kernel
theorem dX7_apart_11 : decode cX7_apart 11 = .ok (.invokestatic 78, 3) := by decide +kernel
theorem dX7_apart_14 : decode cX7_apart 14 = .ok (.ifCond .ne 6, 3) := by decide +kernel
theorem dX7_apart_17 : decode cX7_apart 17 = .ok (.bipush (-2), 2) := by decide +kernel
theorem dX7_apart_19 : decode cX7_apart 19 = .ok (.ireturn, 1) := by decide +kernel
theorem dX7_apart_20 : decode cX7_apart 20 = .ok (.iconst 0, 1) := by decide +kernel
theorem dX7_apart_21 : decode cX7_apart 21 = .ok (.istore_n 3, 1) := by decide +kernel
theorem dX7_apart_22 : decode cX7_apart 22 = .ok (.bipush (-9), 2) := by decide +kernel
theorem dX7_apart_24 : decode cX7_apart 24 = .ok (.istore 4, 2) := by decide +kernel
theorem dX7_apart_26 : decode cX7_apart 26 = .ok (.aload_n 0, 1) := by decide +kernel
theorem dX7_apart_27 : decode cX7_apart 27 = .ok (.getfield 109, 3) := by decide +kernel
theorem dX7_apart_30 : decode cX7_apart 30 = .ok (.iconst 1, 1) := by decide +kernel
theorem dX7_apart_31 : decode cX7_apart 31 = .ok (.isub, 1) := by decide +kernel
theorem dX7_apart_32 : decode cX7_apart 32 = .ok (.istore 5, 2) := by decide +kernel
theorem dX7_apart_34 : decode cX7_apart 34 = .ok (.iload 5, 2) := by decide +kernel
theorem dX7_apart_36 : decode cX7_apart 36 = .ok (.ifCond .lt 86, 3) := by decide +kernel
theorem dX7_apart_39 : decode cX7_apart 39 = .ok (.aload_n 0, 1) := by decide +kernel
theorem dX7_apart_40 : decode cX7_apart 40 = .ok (.getfield 112, 3) := by decide +kernel
theorem dX7_apart_43 : decode cX7_apart 43 = .ok (.iconst 1, 1) := by decide +kernel
theorem dX7_apart_44 : decode cX7_apart 44 = .ok (.isub, 1) := by decide +kernel
theorem dX7_apart_45 : decode cX7_apart 45 = .ok (.istore 6, 2) := by decide +kernel
theorem dX7_apart_47 : decode cX7_apart 47 = .ok (.iload 6, 2) := by decide +kernel
theorem dX7_apart_49 : decode cX7_apart 49 = .ok (.ifCond .lt 67, 3) := by decide +kernel
theorem dX7_apart_52 : decode cX7_apart 52 = .ok (.aload_n 0, 1) := by decide +kernel
theorem dX7_apart_53 : decode cX7_apart 53 = .ok (.aload_n 0, 1) := by decide +kernel
theorem dX7_apart_54 : decode cX7_apart 54 = .ok (.getfield 13, 3) := by decide +kernel
theorem dX7_apart_57 : decode cX7_apart 57 = .ok (.iload 5, 2) := by decide +kernel
theorem dX7_apart_59 : decode cX7_apart 59 = .ok (.iload 6, 2) := by decide +kernel
theorem dX7_apart_61 : decode cX7_apart 61 = .ok (.bipush 15, 2) := by decide +kernel
theorem dX7_apart_63 : decode cX7_apart 63 = .ok (.invokevirtual 170, 3) := by decide +kernel
theorem dX7_apart_66 : decode cX7_apart 66 = .ok (.iload_n 1, 1) := by decide +kernel
theorem dX7_apart_67 : decode cX7_apart 67 = .ok (.if_icmp .ne 7, 3) := by decide +kernel
theorem dX7_apart_70 : decode cX7_apart 70 = .ok (.iconst 1, 1) := by decide +kernel
theorem dX7_apart_71 : decode cX7_apart 71 = .ok (.goto 4, 3) := by decide +kernel
theorem dX7_apart_74 : decode cX7_apart 74 = .ok (.iconst 0, 1) := by decide +kernel
theorem dX7_apart_75 : decode cX7_apart 75 = .ok (.istore 7, 2) := by decide +kernel
theorem dX7_apart_77 : decode cX7_apart 77 = .ok (.iload_n 3, 1) := by decide +kernel
theorem dX7_apart_78 : decode cX7_apart 78 = .ok (.iload 7, 2) := by decide +kernel
theorem dX7_apart_80 : decode cX7_apart 80 = .ok (.ifCond .eq 7, 3) := by decide +kernel
theorem dX7_apart_83 : decode cX7_apart 83 = .ok (.iconst 1, 1) := by decide +kernel
theorem dX7_apart_84 : decode cX7_apart 84 = .ok (.goto 4, 3) := by decide +kernel
theorem dX7_apart_87 : decode cX7_apart 87 = .ok (.iconst 0, 1) := by decide +kernel
theorem dX7_apart_88 : decode cX7_apart 88 = .ok (.iadd, 1) := by decide +kernel
theorem dX7_apart_89 : decode cX7_apart 89 = .ok (.istore_n 3, 1) := by decide +kernel
theorem dX7_apart_90 : decode cX7_apart 90 = .ok (.iload 7, 2) := by decide +kernel
theorem dX7_apart_92 : decode cX7_apart 92 = .ok (.ifCond .eq 14, 3) := by decide +kernel
theorem dX7_apart_95 : decode cX7_apart 95 = .ok (.bipush 10, 2) := by decide +kernel
theorem dX7_apart_97 : decode cX7_apart 97 = .ok (.iload 5, 2) := by decide +kernel
theorem dX7_apart_99 : decode cX7_apart 99 = .ok (.imul, 1) := by decide +kernel
theorem dX7_apart_100 : decode cX7_apart 100 = .ok (.iload 6, 2) := by decide +kernel
theorem dX7_apart_102 : decode cX7_apart 102 = .ok (.iadd, 1) := by decide +kernel
theorem dX7_apart_103 : decode cX7_apart 103 = .ok (.goto 5, 3) := by decide +kernel
theorem dX7_apart_106 : decode cX7_apart 106 = .ok (.iload 4, 2) := by decide +kernel
theorem dX7_apart_108 : decode cX7_apart 108 = .ok (.istore 4, 2) := by decide +kernel
theorem dX7_apart_110 : decode cX7_apart 110 = .ok (.iinc 6 (-1), 3) := by decide +kernel
theorem dX7_apart_113 : decode cX7_apart 113 = .ok (.goto (-66), 3) := by decide +kernel
theorem dX7_apart_116 : decode cX7_apart 116 = .ok (.iinc 5 (-1), 3) := by decide +kernel
theorem dX7_apart_119 : decode cX7_apart 119 = .ok (.goto (-85), 3) := by decide +kernel
theorem dX7_apart_122 : decode cX7_apart 122 = .ok (.iload_n 2, 1) := by decide +kernel
theorem dX7_apart_123 : decode cX7_apart 123 = .ok (.ifCond .ne 7, 3) := by decide +kernel
theorem dX7_apart_126 : decode cX7_apart 126 = .ok (.iload_n 3, 1) := by decide +kernel
theorem dX7_apart_127 : decode cX7_apart 127 = .ok (.goto 5, 3) := by decide +kernel
theorem dX7_apart_130 : decode cX7_apart 130 = .ok (.iload 4, 2) := by decide +kernel
theorem dX7_apart_132 : decode cX7_apart 132 = .ok (.ireturn, 1) := by decide +kernel
theorem dX7_form_0 : decode cX7_form 0 = .ok (.aload_n 0, 1) := by decide +kernel
theorem dX7_form_1 : decode cX7_form 1 = .ok (.iload_n 1, 1) := by decide +kernel
theorem dX7_form_2 : decode cX7_form 2 = .ok (.invokevirtual 190, 3) := by decide +kernel
theorem dX7_form_5 : decode cX7_form 5 = .ok (.ifCond .eq 27, 3) := by decide +kernel
theorem dX7_form_8 : decode cX7_form 8 = .ok (.aload_n 0, 1) := by decide +kernel
theorem dX7_form_9 : decode cX7_form 9 = .ok (.iload_n 2, 1) := by decide +kernel
theorem dX7_form_10 : decode cX7_form 10 = .ok (.invokevirtual 193, 3) := by decide +kernel
theorem dX7_form_13 : decode cX7_form 13 = .ok (.ifCond .eq 19, 3) := by decide +kernel
theorem dX7_form_16 : decode cX7_form 16 = .ok (.aload_n 0, 1) := by decide +kernel
theorem dX7_form_17 : decode cX7_form 17 = .ok (.getfield 13, 3) := by decide +kernel
theorem dX7_form_20 : decode cX7_form 20 = .ok (.bipush 20, 2) := by decide +kernel
theorem dX7_form_22 : decode cX7_form 22 = .ok (.iconst 3, 1) := by decide +kernel
theorem dX7_form_23 : decode cX7_form 23 = .ok (.iload_n 1, 1) := by decide +kernel
theorem dX7_form_24 : decode cX7_form 24 = .ok (.imul, 1) := by decide +kernel
theorem dX7_form_25 : decode cX7_form 25 = .ok (.iadd, 1) := by decide +kernel
theorem dX7_form_26 : decode cX7_form 26 = .ok (.iload_n 2, 1) := by decide +kernel
theorem dX7_form_27 : decode cX7_form 27 = .ok (.iadd, 1) := by decide +kernel
theorem dX7_form_28 : decode cX7_form 28 = .ok (.iaload, 1) := by decide +kernel
theorem dX7_form_29 : decode cX7_form 29 = .ok (.goto 4, 3) := by decide +kernel
theorem dX7_form_32 : decode cX7_form 32 = .ok (.iconst (-1), 1) := by decide +kernel
theorem dX7_form_33 : decode cX7_form 33 = .ok (.ireturn, 1) := by decide +kernel
theorem dX7_noteDoing_0 : decode cX7_noteDoing 0 = .ok (.iconst 0, 1) := by decide +kernel
theorem dX7_noteDoing_1 : decode cX7_noteDoing 1 = .ok (.istore_n 1, 1) := by decide +kernel
theorem dX7_noteDoing_2 : decode cX7_noteDoing 2 = .ok (.iload_n 1, 1) := by decide +kernel
theorem dX7_noteDoing_3 : decode cX7_noteDoing 3 = .ok (.bipush 32, 2) := by decide +kernel
theorem dX7_noteDoing_5 : decode cX7_noteDoing 5 = .ok (.if_icmp .ge 29, 3) := by decide +kernel
theorem dX7_noteDoing_8 : decode cX7_noteDoing 8 = .ok (.aload_n 0, 1) := by decide +kernel
theorem dX7_noteDoing_9 : decode cX7_noteDoing 9 = .ok (.getfield 19, 3) := by decide +kernel
theorem dX7_noteDoing_12 : decode cX7_noteDoing 12 = .ok (.bipush 32, 2) := by decide +kernel
theorem dX7_noteDoing_14 : decode cX7_noteDoing 14 = .ok (.aload_n 0, 1) := by decide +kernel
theorem dX7_noteDoing_15 : decode cX7_noteDoing 15 = .ok (.getfield 204, 3) := by decide +kernel
theorem dX7_noteDoing_18 : decode cX7_noteDoing 18 = .ok (.imul, 1) := by decide +kernel
theorem dX7_noteDoing_19 : decode cX7_noteDoing 19 = .ok (.iload_n 1, 1) := by decide +kernel
theorem dX7_noteDoing_20 : decode cX7_noteDoing 20 = .ok (.iadd, 1) := by decide +kernel
theorem dX7_noteDoing_21 : decode cX7_noteDoing 21 = .ok (.aload_n 0, 1) := by decide +kernel
theorem dX7_noteDoing_22 : decode cX7_noteDoing 22 = .ok (.getfield 13, 3) := by decide +kernel
theorem dX7_noteDoing_25 : decode cX7_noteDoing 25 = .ok (.iload_n 1, 1) := by decide +kernel
theorem dX7_noteDoing_26 : decode cX7_noteDoing 26 = .ok (.iaload, 1) := by decide +kernel
theorem dX7_noteDoing_27 : decode cX7_noteDoing 27 = .ok (.iastore, 1) := by decide +kernel
theorem dX7_noteDoing_28 : decode cX7_noteDoing 28 = .ok (.iinc 1 1, 3) := by decide +kernel
theorem dX7_noteDoing_31 : decode cX7_noteDoing 31 = .ok (.goto (-29), 3) := by decide +kernel
theorem dX7_noteDoing_34 : decode cX7_noteDoing 34 = .ok (.aload_n 0, 1) := by decide +kernel
theorem dX7_noteDoing_35 : decode cX7_noteDoing 35 = .ok (.aload_n 0, 1) := by decide +kernel
theorem dX7_noteDoing_36 : decode cX7_noteDoing 36 = .ok (.getfield 204, 3) := by decide +kernel
theorem dX7_noteDoing_39 : decode cX7_noteDoing 39 = .ok (.iconst 1, 1) := by decide +kernel
theorem dX7_noteDoing_40 : decode cX7_noteDoing 40 = .ok (.iadd, 1) := by decide +kernel
theorem dX7_noteDoing_41 : decode cX7_noteDoing 41 = .ok (.bipush 14, 2) := by decide +kernel
theorem dX7_noteDoing_43 : decode cX7_noteDoing 43 = .ok (.irem, 1) := by decide +kernel
theorem dX7_noteDoing_44 : decode cX7_noteDoing 44 = .ok (.putfield 204, 3) := by decide +kernel
theorem dX7_noteDoing_47 : decode cX7_noteDoing 47 = .ok (.aload_n 0, 1) := by decide +kernel
theorem dX7_noteDoing_48 : decode cX7_noteDoing 48 = .ok (.aload_n 0, 1) := by decide +kernel
theorem dX7_noteDoing_49 : decode cX7_noteDoing 49 = .ok (.getfield 167, 3) := by decide +kernel
theorem dX7_noteDoing_52 : decode cX7_noteDoing 52 = .ok (.bipush 14, 2) := by decide +kernel
theorem dX7_noteDoing_54 : decode cX7_noteDoing 54 = .ok (.if_icmp .ge 12, 3) := by decide +kernel
theorem dX7_noteDoing_57 : decode cX7_noteDoing 57 = .ok (.aload_n 0, 1) := by decide +kernel
theorem dX7_noteDoing_58 : decode cX7_noteDoing 58 = .ok (.getfield 167, 3) := by decide +kernel
theorem dX7_noteDoing_61 : decode cX7_noteDoing 61 = .ok (.iconst 1, 1) := by decide +kernel
theorem dX7_noteDoing_62 : decode cX7_noteDoing 62 = .ok (.iadd, 1) := by decide +kernel
theorem dX7_noteDoing_63 : decode cX7_noteDoing 63 = .ok (.goto 5, 3) := by decide +kernel
theorem dX7_noteDoing_66 : decode cX7_noteDoing 66 = .ok (.bipush 14, 2) := by decide +kernel
theorem dX7_noteDoing_68 : decode cX7_noteDoing 68 = .ok (.putfield 167, 3) := by decide +kernel
theorem dX7_noteDoing_71 : decode cX7_noteDoing 71 = .ok (.return_, 1) := by decide +kernel
theorem dX7_swapOn_0 : decode cX7_swapOn 0 = .ok (.aload_n 0, 1) := by decide +kernel
theorem dX7_swapOn_1 : decode cX7_swapOn 1 = .ok (.iload_n 1, 1) := by decide +kernel
theorem dX7_swapOn_2 : decode cX7_swapOn 2 = .ok (.iaload, 1) := by decide +kernel
theorem dX7_swapOn_3 : decode cX7_swapOn 3 = .ok (.istore_n 3, 1) := by decide +kernel
theorem dX7_swapOn_4 : decode cX7_swapOn 4 = .ok (.aload_n 0, 1) := by decide +kernel
theorem dX7_swapOn_5 : decode cX7_swapOn 5 = .ok (.iload_n 1, 1) := by decide +kernel
theorem dX7_swapOn_6 : decode cX7_swapOn 6 = .ok (.aload_n 0, 1) := by decide +kernel
theorem dX7_swapOn_7 : decode cX7_swapOn 7 = .ok (.iload_n 2, 1) := by decide +kernel
theorem dX7_swapOn_8 : decode cX7_swapOn 8 = .ok (.iaload, 1) := by decide +kernel
theorem dX7_swapOn_9 : decode cX7_swapOn 9 = .ok (.iastore, 1) := by decide +kernel
theorem dX7_swapOn_10 : decode cX7_swapOn 10 = .ok (.aload_n 0, 1) := by decide +kernel
theorem dX7_swapOn_11 : decode cX7_swapOn 11 = .ok (.iload_n 2, 1) := by decide +kernel
theorem dX7_swapOn_12 : decode cX7_swapOn 12 = .ok (.iload_n 3, 1) := by decide +kernel
theorem dX7_swapOn_13 : decode cX7_swapOn 13 = .ok (.iastore, 1) := by decide +kernel
theorem dX7_swapOn_14 : decode cX7_swapOn 14 = .ok (.return_, 1) := by decide +kernel
theorem dX7_isSign_0 : decode cX7_isSign 0 = .ok (.iload_n 0, 1) := by decide +kernel
theorem dX7_isSign_1 : decode cX7_isSign 1 = .ok (.tableswitch 71 0 3 #[31, 41, 51, 61], 31) := by decide +kernel
theorem dX7_isSign_32 : decode cX7_isSign 32 = .ok (.iload_n 1, 1) := by decide +kernel
theorem dX7_isSign_33 : decode cX7_isSign 33 = .ok (.i2l, 1) := by decide +kernel
theorem dX7_isSign_34 : decode cX7_isSign 34 = .ok (.lconst 1, 1) := by decide +kernel
theorem dX7_isSign_35 : decode cX7_isSign 35 = .ok (.ldc2_w 82, 3) := by decide +kernel
theorem dX7_isSign_38 : decode cX7_isSign 38 = .ok (.invokestatic 78, 3) := by decide +kernel
theorem dX7_isSign_41 : decode cX7_isSign 41 = .ok (.ireturn, 1) := by decide +kernel
theorem dX7_isSign_42 : decode cX7_isSign 42 = .ok (.iload_n 1, 1) := by decide +kernel
