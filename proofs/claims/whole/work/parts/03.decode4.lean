theorem dX7_isSign_43 : decode cX7_isSign 43 = .ok (.i2l, 1) := by decide +kernel
theorem dX7_isSign_44 : decode cX7_isSign 44 = .ok (.lconst 0, 1) := by decide +kernel
theorem dX7_isSign_45 : decode cX7_isSign 45 = .ok (.ldc2_w 82, 3) := by decide +kernel
theorem dX7_isSign_48 : decode cX7_isSign 48 = .ok (.invokestatic 78, 3) := by decide +kernel
theorem dX7_isSign_51 : decode cX7_isSign 51 = .ok (.ireturn, 1) := by decide +kernel
theorem dX7_isSign_52 : decode cX7_isSign 52 = .ok (.iload_n 1, 1) := by decide +kernel
theorem dX7_isSign_53 : decode cX7_isSign 53 = .ok (.i2l, 1) := by decide +kernel
theorem dX7_isSign_54 : decode cX7_isSign 54 = .ok (.lconst 1, 1) := by decide +kernel
theorem dX7_isSign_55 : decode cX7_isSign 55 = .ok (.ldc2_w 207, 3) := by decide +kernel
theorem dX7_isSign_58 : decode cX7_isSign 58 = .ok (.invokestatic 78, 3) := by decide +kernel
theorem dX7_isSign_61 : decode cX7_isSign 61 = .ok (.ireturn, 1) := by decide +kernel
theorem dX7_isSign_62 : decode cX7_isSign 62 = .ok (.iload_n 1, 1) := by decide +kernel
theorem dX7_isSign_63 : decode cX7_isSign 63 = .ok (.i2l, 1) := by decide +kernel
theorem dX7_isSign_64 : decode cX7_isSign 64 = .ok (.lconst 1, 1) := by decide +kernel
theorem dX7_isSign_65 : decode cX7_isSign 65 = .ok (.ldc2_w 207, 3) := by decide +kernel
theorem dX7_isSign_68 : decode cX7_isSign 68 = .ok (.invokestatic 78, 3) := by decide +kernel
theorem dX7_isSign_71 : decode cX7_isSign 71 = .ok (.ireturn, 1) := by decide +kernel
theorem dX7_isSign_72 : decode cX7_isSign 72 = .ok (.iconst 0, 1) := by decide +kernel
theorem dX7_isSign_73 : decode cX7_isSign 73 = .ok (.ireturn, 1) := by decide +kernel
theorem dX7_swap_0 : decode cX7_swap 0 = .ok (.aload_n 0, 1) := by decide +kernel
theorem dX7_swap_1 : decode cX7_swap 1 = .ok (.iload_n 1, 1) := by decide +kernel
theorem dX7_swap_2 : decode cX7_swap 2 = .ok (.invokevirtual 196, 3) := by decide +kernel
theorem dX7_swap_5 : decode cX7_swap 5 = .ok (.ifCond .eq 11, 3) := by decide +kernel
theorem dX7_swap_8 : decode cX7_swap 8 = .ok (.aload_n 0, 1) := by decide +kernel
theorem dX7_swap_9 : decode cX7_swap 9 = .ok (.iload_n 2, 1) := by decide +kernel
theorem dX7_swap_10 : decode cX7_swap 10 = .ok (.invokevirtual 196, 3) := by decide +kernel
theorem dX7_swap_13 : decode cX7_swap 13 = .ok (.ifCond .ne 5, 3) := by decide +kernel
theorem dX7_swap_16 : decode cX7_swap 16 = .ok (.iconst (-1), 1) := by decide +kernel
theorem dX7_swap_17 : decode cX7_swap 17 = .ok (.ireturn, 1) := by decide +kernel
theorem dX7_swap_18 : decode cX7_swap 18 = .ok (.aload_n 0, 1) := by decide +kernel
theorem dX7_swap_19 : decode cX7_swap 19 = .ok (.invokevirtual 209, 3) := by decide +kernel
theorem dX7_swap_22 : decode cX7_swap 22 = .ok (.aload_n 0, 1) := by decide +kernel
theorem dX7_swap_23 : decode cX7_swap 23 = .ok (.getfield 13, 3) := by decide +kernel
theorem dX7_swap_26 : decode cX7_swap 26 = .ok (.iload_n 1, 1) := by decide +kernel
theorem dX7_swap_27 : decode cX7_swap 27 = .ok (.iload_n 2, 1) := by decide +kernel
theorem dX7_swap_28 : decode cX7_swap 28 = .ok (.invokestatic 212, 3) := by decide +kernel
theorem dX7_swap_31 : decode cX7_swap 31 = .ok (.aload_n 0, 1) := by decide +kernel
theorem dX7_swap_32 : decode cX7_swap 32 = .ok (.aload_n 0, 1) := by decide +kernel
theorem dX7_swap_33 : decode cX7_swap 33 = .ok (.getfield 13, 3) := by decide +kernel
theorem dX7_swap_36 : decode cX7_swap 36 = .ok (.bipush 15, 2) := by decide +kernel
theorem dX7_swap_38 : decode cX7_swap 38 = .ok (.invokevirtual 173, 3) := by decide +kernel
theorem dX7_swap_41 : decode cX7_swap 41 = .ok (.ireturn, 1) := by decide +kernel
theorem dX7_resign_0 : decode cX7_resign 0 = .ok (.aload_n 0, 1) := by decide +kernel
theorem dX7_resign_1 : decode cX7_resign 1 = .ok (.iload_n 1, 1) := by decide +kernel
theorem dX7_resign_2 : decode cX7_resign 2 = .ok (.invokevirtual 196, 3) := by decide +kernel
theorem dX7_resign_5 : decode cX7_resign 5 = .ok (.ifCond .ne 5, 3) := by decide +kernel
theorem dX7_resign_8 : decode cX7_resign 8 = .ok (.iconst (-1), 1) := by decide +kernel
theorem dX7_resign_9 : decode cX7_resign 9 = .ok (.ireturn, 1) := by decide +kernel
theorem dX7_resign_10 : decode cX7_resign 10 = .ok (.iload_n 2, 1) := by decide +kernel
theorem dX7_resign_11 : decode cX7_resign 11 = .ok (.iload_n 3, 1) := by decide +kernel
theorem dX7_resign_12 : decode cX7_resign 12 = .ok (.invokestatic 216, 3) := by decide +kernel
theorem dX7_resign_15 : decode cX7_resign 15 = .ok (.ifCond .ne 6, 3) := by decide +kernel
theorem dX7_resign_18 : decode cX7_resign 18 = .ok (.bipush (-2), 2) := by decide +kernel
theorem dX7_resign_20 : decode cX7_resign 20 = .ok (.ireturn, 1) := by decide +kernel
theorem dX7_resign_21 : decode cX7_resign 21 = .ok (.aload_n 0, 1) := by decide +kernel
theorem dX7_resign_22 : decode cX7_resign 22 = .ok (.invokevirtual 209, 3) := by decide +kernel
theorem dX7_resign_25 : decode cX7_resign 25 = .ok (.aload_n 0, 1) := by decide +kernel
theorem dX7_resign_26 : decode cX7_resign 26 = .ok (.getfield 13, 3) := by decide +kernel
theorem dX7_resign_29 : decode cX7_resign 29 = .ok (.iconst 4, 1) := by decide +kernel
theorem dX7_resign_30 : decode cX7_resign 30 = .ok (.iconst 4, 1) := by decide +kernel
theorem dX7_resign_31 : decode cX7_resign 31 = .ok (.iload_n 1, 1) := by decide +kernel
theorem dX7_resign_32 : decode cX7_resign 32 = .ok (.imul, 1) := by decide +kernel
theorem dX7_resign_33 : decode cX7_resign 33 = .ok (.iadd, 1) := by decide +kernel
theorem dX7_resign_34 : decode cX7_resign 34 = .ok (.iload_n 2, 1) := by decide +kernel
theorem dX7_resign_35 : decode cX7_resign 35 = .ok (.iadd, 1) := by decide +kernel
theorem dX7_resign_36 : decode cX7_resign 36 = .ok (.iaload, 1) := by decide +kernel
theorem dX7_resign_37 : decode cX7_resign 37 = .ok (.istore 4, 2) := by decide +kernel
theorem dX7_resign_39 : decode cX7_resign 39 = .ok (.aload_n 0, 1) := by decide +kernel
theorem dX7_resign_40 : decode cX7_resign 40 = .ok (.getfield 13, 3) := by decide +kernel
theorem dX7_resign_43 : decode cX7_resign 43 = .ok (.iconst 4, 1) := by decide +kernel
theorem dX7_resign_44 : decode cX7_resign 44 = .ok (.iconst 4, 1) := by decide +kernel
theorem dX7_resign_45 : decode cX7_resign 45 = .ok (.iload_n 1, 1) := by decide +kernel
theorem dX7_resign_46 : decode cX7_resign 46 = .ok (.imul, 1) := by decide +kernel
theorem dX7_resign_47 : decode cX7_resign 47 = .ok (.iadd, 1) := by decide +kernel
theorem dX7_resign_48 : decode cX7_resign 48 = .ok (.iload_n 2, 1) := by decide +kernel
theorem dX7_resign_49 : decode cX7_resign 49 = .ok (.iadd, 1) := by decide +kernel
theorem dX7_resign_50 : decode cX7_resign 50 = .ok (.iload_n 3, 1) := by decide +kernel
theorem dX7_resign_51 : decode cX7_resign 51 = .ok (.iastore, 1) := by decide +kernel
theorem dX7_resign_52 : decode cX7_resign 52 = .ok (.iload 4, 2) := by decide +kernel
theorem dX7_resign_54 : decode cX7_resign 54 = .ok (.ireturn, 1) := by decide +kernel
theorem dX7_tell_0 : decode cX7_tell 0 = .ok (.aload_n 0, 1) := by decide +kernel
theorem dX7_tell_1 : decode cX7_tell 1 = .ok (.iload_n 1, 1) := by decide +kernel
theorem dX7_tell_2 : decode cX7_tell 2 = .ok (.invokevirtual 190, 3) := by decide +kernel
theorem dX7_tell_5 : decode cX7_tell 5 = .ok (.ifCond .eq 11, 3) := by decide +kernel
theorem dX7_tell_8 : decode cX7_tell 8 = .ok (.aload_n 0, 1) := by decide +kernel
theorem dX7_tell_9 : decode cX7_tell 9 = .ok (.iload_n 2, 1) := by decide +kernel
theorem dX7_tell_10 : decode cX7_tell 10 = .ok (.invokevirtual 193, 3) := by decide +kernel
theorem dX7_tell_13 : decode cX7_tell 13 = .ok (.ifCond .ne 5, 3) := by decide +kernel
theorem dX7_tell_16 : decode cX7_tell 16 = .ok (.iconst (-1), 1) := by decide +kernel
theorem dX7_tell_17 : decode cX7_tell 17 = .ok (.ireturn, 1) := by decide +kernel
theorem dX7_tell_18 : decode cX7_tell 18 = .ok (.iload_n 3, 1) := by decide +kernel
theorem dX7_tell_19 : decode cX7_tell 19 = .ok (.bipush (-9), 2) := by decide +kernel
theorem dX7_tell_21 : decode cX7_tell 21 = .ok (.if_icmp .eq 13, 3) := by decide +kernel
theorem dX7_tell_24 : decode cX7_tell 24 = .ok (.iload_n 3, 1) := by decide +kernel
theorem dX7_tell_25 : decode cX7_tell 25 = .ok (.invokestatic 201, 3) := by decide +kernel
theorem dX7_tell_28 : decode cX7_tell 28 = .ok (.ifCond .ne 6, 3) := by decide +kernel
theorem dX7_tell_31 : decode cX7_tell 31 = .ok (.bipush (-2), 2) := by decide +kernel
theorem dX7_tell_33 : decode cX7_tell 33 = .ok (.ireturn, 1) := by decide +kernel
theorem dX7_tell_34 : decode cX7_tell 34 = .ok (.aload_n 0, 1) := by decide +kernel
theorem dX7_tell_35 : decode cX7_tell 35 = .ok (.invokevirtual 209, 3) := by decide +kernel
theorem dX7_tell_38 : decode cX7_tell 38 = .ok (.aload_n 0, 1) := by decide +kernel
theorem dX7_tell_39 : decode cX7_tell 39 = .ok (.getfield 13, 3) := by decide +kernel
theorem dX7_tell_42 : decode cX7_tell 42 = .ok (.bipush 20, 2) := by decide +kernel
theorem dX7_tell_44 : decode cX7_tell 44 = .ok (.iconst 3, 1) := by decide +kernel
theorem dX7_tell_45 : decode cX7_tell 45 = .ok (.iload_n 1, 1) := by decide +kernel
theorem dX7_tell_46 : decode cX7_tell 46 = .ok (.imul, 1) := by decide +kernel
theorem dX7_tell_47 : decode cX7_tell 47 = .ok (.iadd, 1) := by decide +kernel
theorem dX7_tell_48 : decode cX7_tell 48 = .ok (.iload_n 2, 1) := by decide +kernel
theorem dX7_tell_49 : decode cX7_tell 49 = .ok (.iadd, 1) := by decide +kernel
theorem dX7_tell_50 : decode cX7_tell 50 = .ok (.iload_n 3, 1) := by decide +kernel
theorem dX7_tell_51 : decode cX7_tell 51 = .ok (.iastore, 1) := by decide +kernel
theorem dX7_tell_52 : decode cX7_tell 52 = .ok (.aload_n 0, 1) := by decide +kernel
theorem dX7_tell_53 : decode cX7_tell 53 = .ok (.aload_n 0, 1) := by decide +kernel
theorem dX7_tell_54 : decode cX7_tell 54 = .ok (.getfield 13, 3) := by decide +kernel
theorem dX7_tell_57 : decode cX7_tell 57 = .ok (.invokevirtual 181, 3) := by decide +kernel
theorem dX7_tell_60 : decode cX7_tell 60 = .ok (.ireturn, 1) := by decide +kernel
theorem dX7_undo_0 : decode cX7_undo 0 = .ok (.aload_n 0, 1) := by decide +kernel
theorem dX7_undo_1 : decode cX7_undo 1 = .ok (.getfield 167, 3) := by decide +kernel
theorem dX7_undo_4 : decode cX7_undo 4 = .ok (.ifCond .ne 6, 3) := by decide +kernel
theorem dX7_undo_7 : decode cX7_undo 7 = .ok (.bipush (-3), 2) := by decide +kernel
theorem dX7_undo_9 : decode cX7_undo 9 = .ok (.ireturn, 1) := by decide +kernel
theorem dX7_undo_10 : decode cX7_undo 10 = .ok (.aload_n 0, 1) := by decide +kernel
theorem dX7_undo_11 : decode cX7_undo 11 = .ok (.dup, 1) := by decide +kernel
theorem dX7_undo_12 : decode cX7_undo 12 = .ok (.getfield 167, 3) := by decide +kernel
theorem dX7_undo_15 : decode cX7_undo 15 = .ok (.iconst 1, 1) := by decide +kernel
theorem dX7_undo_16 : decode cX7_undo 16 = .ok (.isub, 1) := by decide +kernel
theorem dX7_undo_17 : decode cX7_undo 17 = .ok (.putfield 167, 3) := by decide +kernel
theorem dX7_undo_20 : decode cX7_undo 20 = .ok (.aload_n 0, 1) := by decide +kernel
theorem dX7_undo_21 : decode cX7_undo 21 = .ok (.aload_n 0, 1) := by decide +kernel
theorem dX7_undo_22 : decode cX7_undo 22 = .ok (.getfield 204, 3) := by decide +kernel
theorem dX7_undo_25 : decode cX7_undo 25 = .ok (.bipush 14, 2) := by decide +kernel
theorem dX7_undo_27 : decode cX7_undo 27 = .ok (.iadd, 1) := by decide +kernel
theorem dX7_undo_28 : decode cX7_undo 28 = .ok (.iconst 1, 1) := by decide +kernel
theorem dX7_undo_29 : decode cX7_undo 29 = .ok (.isub, 1) := by decide +kernel
theorem dX7_undo_30 : decode cX7_undo 30 = .ok (.bipush 14, 2) := by decide +kernel
theorem dX7_undo_32 : decode cX7_undo 32 = .ok (.irem, 1) := by decide +kernel
theorem dX7_undo_33 : decode cX7_undo 33 = .ok (.putfield 204, 3) := by decide +kernel
theorem dX7_undo_36 : decode cX7_undo 36 = .ok (.iconst 0, 1) := by decide +kernel
theorem dX7_undo_37 : decode cX7_undo 37 = .ok (.istore_n 1, 1) := by decide +kernel
theorem dX7_undo_38 : decode cX7_undo 38 = .ok (.iload_n 1, 1) := by decide +kernel
theorem dX7_undo_39 : decode cX7_undo 39 = .ok (.bipush 32, 2) := by decide +kernel
theorem dX7_undo_41 : decode cX7_undo 41 = .ok (.if_icmp .ge 29, 3) := by decide +kernel
theorem dX7_undo_44 : decode cX7_undo 44 = .ok (.aload_n 0, 1) := by decide +kernel
theorem dX7_undo_45 : decode cX7_undo 45 = .ok (.getfield 13, 3) := by decide +kernel
theorem dX7_undo_48 : decode cX7_undo 48 = .ok (.iload_n 1, 1) := by decide +kernel
theorem dX7_undo_49 : decode cX7_undo 49 = .ok (.aload_n 0, 1) := by decide +kernel
theorem dX7_undo_50 : decode cX7_undo 50 = .ok (.getfield 19, 3) := by decide +kernel
theorem dX7_undo_53 : decode cX7_undo 53 = .ok (.bipush 32, 2) := by decide +kernel
theorem dX7_undo_55 : decode cX7_undo 55 = .ok (.aload_n 0, 1) := by decide +kernel
theorem dX7_undo_56 : decode cX7_undo 56 = .ok (.getfield 204, 3) := by decide +kernel
theorem dX7_undo_59 : decode cX7_undo 59 = .ok (.imul, 1) := by decide +kernel
theorem dX7_undo_60 : decode cX7_undo 60 = .ok (.iload_n 1, 1) := by decide +kernel
theorem dX7_undo_61 : decode cX7_undo 61 = .ok (.iadd, 1) := by decide +kernel
theorem dX7_undo_62 : decode cX7_undo 62 = .ok (.iaload, 1) := by decide +kernel
theorem dX7_undo_63 : decode cX7_undo 63 = .ok (.iastore, 1) := by decide +kernel
theorem dX7_undo_64 : decode cX7_undo 64 = .ok (.iinc 1 1, 3) := by decide +kernel
theorem dX7_undo_67 : decode cX7_undo 67 = .ok (.goto (-29), 3) := by decide +kernel
theorem dX7_undo_70 : decode cX7_undo 70 = .ok (.aload_n 0, 1) := by decide +kernel
theorem dX7_undo_71 : decode cX7_undo 71 = .ok (.getfield 167, 3) := by decide +kernel
theorem dX7_undo_74 : decode cX7_undo 74 = .ok (.ireturn, 1) := by decide +kernel
theorem dX7_areCrossing_0 : decode cX7_areCrossing 0 = .ok (.iconst 0, 1) := by decide +kernel
theorem dX7_areCrossing_1 : decode cX7_areCrossing 1 = .ok (.istore 4, 2) := by decide +kernel
theorem dX7_areCrossing_3 : decode cX7_areCrossing 3 = .ok (.iconst 0, 1) := by decide +kernel
theorem dX7_areCrossing_4 : decode cX7_areCrossing 4 = .ok (.istore 5, 2) := by decide +kernel
theorem dX7_areCrossing_6 : decode cX7_areCrossing 6 = .ok (.iload 5, 2) := by decide +kernel
theorem dX7_areCrossing_8 : decode cX7_areCrossing 8 = .ok (.aload_n 0, 1) := by decide +kernel
theorem dX7_areCrossing_9 : decode cX7_areCrossing 9 = .ok (.getfield 109, 3) := by decide +kernel
theorem dX7_areCrossing_12 : decode cX7_areCrossing 12 = .ok (.aload_n 0, 1) := by decide +kernel
theorem dX7_areCrossing_13 : decode cX7_areCrossing 13 = .ok (.getfield 112, 3) := by decide +kernel
theorem dX7_areCrossing_16 : decode cX7_areCrossing 16 = .ok (.imul, 1) := by decide +kernel
theorem dX7_areCrossing_17 : decode cX7_areCrossing 17 = .ok (.if_icmp .ge 76, 3) := by decide +kernel
theorem dX7_areCrossing_20 : decode cX7_areCrossing 20 = .ok (.aload_n 0, 1) := by decide +kernel
theorem dX7_areCrossing_21 : decode cX7_areCrossing 21 = .ok (.iload 5, 2) := by decide +kernel
theorem dX7_areCrossing_23 : decode cX7_areCrossing 23 = .ok (.aload_n 0, 1) := by decide +kernel
theorem dX7_areCrossing_24 : decode cX7_areCrossing 24 = .ok (.getfield 112, 3) := by decide +kernel
theorem dX7_areCrossing_27 : decode cX7_areCrossing 27 = .ok (.idiv, 1) := by decide +kernel
theorem dX7_areCrossing_28 : decode cX7_areCrossing 28 = .ok (.iload 5, 2) := by decide +kernel
theorem dX7_areCrossing_30 : decode cX7_areCrossing 30 = .ok (.aload_n 0, 1) := by decide +kernel
theorem dX7_areCrossing_31 : decode cX7_areCrossing 31 = .ok (.getfield 112, 3) := by decide +kernel
theorem dX7_areCrossing_34 : decode cX7_areCrossing 34 = .ok (.irem, 1) := by decide +kernel
theorem dX7_areCrossing_35 : decode cX7_areCrossing 35 = .ok (.invokevirtual 98, 3) := by decide +kernel
theorem dX7_areCrossing_38 : decode cX7_areCrossing 38 = .ok (.istore 6, 2) := by decide +kernel
theorem dX7_areCrossing_40 : decode cX7_areCrossing 40 = .ok (.aload_n 1, 1) := by decide +kernel
theorem dX7_areCrossing_41 : decode cX7_areCrossing 41 = .ok (.iload_n 3, 1) := by decide +kernel
theorem dX7_areCrossing_42 : decode cX7_areCrossing 42 = .ok (.aload_n 1, 1) := by decide +kernel
theorem dX7_areCrossing_43 : decode cX7_areCrossing 43 = .ok (.iload_n 2, 1) := by decide +kernel
theorem dX7_areCrossing_44 : decode cX7_areCrossing 44 = .ok (.iload 6, 2) := by decide +kernel
theorem dX7_areCrossing_46 : decode cX7_areCrossing 46 = .ok (.invokestatic 91, 3) := by decide +kernel
theorem dX7_areCrossing_49 : decode cX7_areCrossing 49 = .ok (.invokestatic 91, 3) := by decide +kernel
theorem dX7_areCrossing_52 : decode cX7_areCrossing 52 = .ok (.istore 7, 2) := by decide +kernel
theorem dX7_areCrossing_54 : decode cX7_areCrossing 54 = .ok (.aload_n 1, 1) := by decide +kernel
theorem dX7_areCrossing_55 : decode cX7_areCrossing 55 = .ok (.iload_n 2, 1) := by decide +kernel
theorem dX7_areCrossing_56 : decode cX7_areCrossing 56 = .ok (.aload_n 1, 1) := by decide +kernel
theorem dX7_areCrossing_57 : decode cX7_areCrossing 57 = .ok (.iload_n 3, 1) := by decide +kernel
theorem dX7_areCrossing_58 : decode cX7_areCrossing 58 = .ok (.iload 6, 2) := by decide +kernel
theorem dX7_areCrossing_60 : decode cX7_areCrossing 60 = .ok (.invokestatic 91, 3) := by decide +kernel
theorem dX7_areCrossing_63 : decode cX7_areCrossing 63 = .ok (.invokestatic 91, 3) := by decide +kernel
theorem dX7_areCrossing_66 : decode cX7_areCrossing 66 = .ok (.istore 8, 2) := by decide +kernel
theorem dX7_areCrossing_68 : decode cX7_areCrossing 68 = .ok (.iload 4, 2) := by decide +kernel
theorem dX7_areCrossing_70 : decode cX7_areCrossing 70 = .ok (.ifCond .ne 10, 3) := by decide +kernel
theorem dX7_areCrossing_73 : decode cX7_areCrossing 73 = .ok (.iload 7, 2) := by decide +kernel
theorem dX7_areCrossing_75 : decode cX7_areCrossing 75 = .ok (.iload 8, 2) := by decide +kernel
theorem dX7_areCrossing_77 : decode cX7_areCrossing 77 = .ok (.if_icmp .eq 7, 3) := by decide +kernel
theorem dX7_areCrossing_80 : decode cX7_areCrossing 80 = .ok (.iconst 1, 1) := by decide +kernel
theorem dX7_areCrossing_81 : decode cX7_areCrossing 81 = .ok (.goto 4, 3) := by decide +kernel
theorem dX7_areCrossing_84 : decode cX7_areCrossing 84 = .ok (.iconst 0, 1) := by decide +kernel
theorem dX7_areCrossing_85 : decode cX7_areCrossing 85 = .ok (.istore 4, 2) := by decide +kernel
theorem dX7_areCrossing_87 : decode cX7_areCrossing 87 = .ok (.iinc 5 1, 3) := by decide +kernel
theorem dX7_areCrossing_90 : decode cX7_areCrossing 90 = .ok (.goto (-84), 3) := by decide +kernel
theorem dX7_areCrossing_93 : decode cX7_areCrossing 93 = .ok (.iload 4, 2) := by decide +kernel
theorem dX7_areCrossing_95 : decode cX7_areCrossing 95 = .ok (.ireturn, 1) := by decide +kernel
theorem dX7_cross_0 : decode cX7_cross 0 = .ok (.aload_n 0, 1) := by decide +kernel
theorem dX7_cross_1 : decode cX7_cross 1 = .ok (.iload_n 1, 1) := by decide +kernel
theorem dX7_cross_2 : decode cX7_cross 2 = .ok (.invokevirtual 196, 3) := by decide +kernel
theorem dX7_cross_5 : decode cX7_cross 5 = .ok (.ifCond .eq 11, 3) := by decide +kernel
theorem dX7_cross_8 : decode cX7_cross 8 = .ok (.aload_n 0, 1) := by decide +kernel
theorem dX7_cross_9 : decode cX7_cross 9 = .ok (.iload_n 2, 1) := by decide +kernel
theorem dX7_cross_10 : decode cX7_cross 10 = .ok (.invokevirtual 196, 3) := by decide +kernel
theorem dX7_cross_13 : decode cX7_cross 13 = .ok (.ifCond .ne 5, 3) := by decide +kernel
theorem dX7_cross_16 : decode cX7_cross 16 = .ok (.iconst (-1), 1) := by decide +kernel
theorem dX7_cross_17 : decode cX7_cross 17 = .ok (.ireturn, 1) := by decide +kernel
theorem dX7_cross_18 : decode cX7_cross 18 = .ok (.aload_n 0, 1) := by decide +kernel
theorem dX7_cross_19 : decode cX7_cross 19 = .ok (.aload_n 0, 1) := by decide +kernel
theorem dX7_cross_20 : decode cX7_cross 20 = .ok (.getfield 13, 3) := by decide +kernel
theorem dX7_cross_23 : decode cX7_cross 23 = .ok (.iload_n 1, 1) := by decide +kernel
theorem dX7_cross_24 : decode cX7_cross 24 = .ok (.iload_n 2, 1) := by decide +kernel
theorem dX7_cross_25 : decode cX7_cross 25 = .ok (.invokevirtual 219, 3) := by decide +kernel
theorem dX7_cross_28 : decode cX7_cross 28 = .ok (.ifCond .eq 7, 3) := by decide +kernel
theorem dX7_cross_31 : decode cX7_cross 31 = .ok (.iconst 1, 1) := by decide +kernel
theorem dX7_cross_32 : decode cX7_cross 32 = .ok (.goto 4, 3) := by decide +kernel
theorem dX7_cross_35 : decode cX7_cross 35 = .ok (.iconst 0, 1) := by decide +kernel
theorem dX7_cross_36 : decode cX7_cross 36 = .ok (.ireturn, 1) := by decide +kernel
theorem dX7_changeAt_0 : decode cX7_changeAt 0 = .ok (.iload_n 1, 1) := by decide +kernel
theorem dX7_changeAt_1 : decode cX7_changeAt 1 = .ok (.iconst 2, 1) := by decide +kernel
theorem dX7_changeAt_2 : decode cX7_changeAt 2 = .ok (.aload_n 0, 1) := by decide +kernel
theorem dX7_changeAt_3 : decode cX7_changeAt 3 = .ok (.getfield 101, 3) := by decide +kernel
theorem dX7_changeAt_6 : decode cX7_changeAt 6 = .ok (.iconst 1, 1) := by decide +kernel
theorem dX7_changeAt_7 : decode cX7_changeAt 7 = .ok (.isub, 1) := by decide +kernel
theorem dX7_changeAt_8 : decode cX7_changeAt 8 = .ok (.iload_n 2, 1) := by decide +kernel
theorem dX7_changeAt_9 : decode cX7_changeAt 9 = .ok (.isub, 1) := by decide +kernel
theorem dX7_changeAt_10 : decode cX7_changeAt 10 = .ok (.imul, 1) := by decide +kernel
theorem dX7_changeAt_11 : decode cX7_changeAt 11 = .ok (.ishr, 1) := by decide +kernel
theorem dX7_changeAt_12 : decode cX7_changeAt 12 = .ok (.iconst 3, 1) := by decide +kernel
theorem dX7_changeAt_13 : decode cX7_changeAt 13 = .ok (.iand, 1) := by decide +kernel
theorem dX7_changeAt_14 : decode cX7_changeAt 14 = .ok (.ireturn, 1) := by decide +kernel
theorem dX7_isOrder_0 : decode cX7_isOrder 0 = .ok (.iconst 0, 1) := by decide +kernel
theorem dX7_isOrder_1 : decode cX7_isOrder 1 = .ok (.istore_n 2, 1) := by decide +kernel
theorem dX7_isOrder_2 : decode cX7_isOrder 2 = .ok (.iconst 0, 1) := by decide +kernel
theorem dX7_isOrder_3 : decode cX7_isOrder 3 = .ok (.istore_n 3, 1) := by decide +kernel
theorem dX7_isOrder_4 : decode cX7_isOrder 4 = .ok (.iload_n 3, 1) := by decide +kernel
theorem dX7_isOrder_5 : decode cX7_isOrder 5 = .ok (.aload_n 0, 1) := by decide +kernel
theorem dX7_isOrder_6 : decode cX7_isOrder 6 = .ok (.getfield 101, 3) := by decide +kernel
theorem dX7_isOrder_9 : decode cX7_isOrder 9 = .ok (.if_icmp .ge 20, 3) := by decide +kernel
theorem dX7_isOrder_12 : decode cX7_isOrder 12 = .ok (.iload_n 2, 1) := by decide +kernel
theorem dX7_isOrder_13 : decode cX7_isOrder 13 = .ok (.iconst 1, 1) := by decide +kernel
theorem dX7_isOrder_14 : decode cX7_isOrder 14 = .ok (.aload_n 0, 1) := by decide +kernel
theorem dX7_isOrder_15 : decode cX7_isOrder 15 = .ok (.iload_n 1, 1) := by decide +kernel
theorem dX7_isOrder_16 : decode cX7_isOrder 16 = .ok (.iload_n 3, 1) := by decide +kernel
theorem dX7_isOrder_17 : decode cX7_isOrder 17 = .ok (.invokevirtual 223, 3) := by decide +kernel
theorem dX7_isOrder_20 : decode cX7_isOrder 20 = .ok (.ishl, 1) := by decide +kernel
theorem dX7_isOrder_21 : decode cX7_isOrder 21 = .ok (.ior, 1) := by decide +kernel
theorem dX7_isOrder_22 : decode cX7_isOrder 22 = .ok (.istore_n 2, 1) := by decide +kernel
theorem dX7_isOrder_23 : decode cX7_isOrder 23 = .ok (.iinc 3 1, 3) := by decide +kernel
theorem dX7_isOrder_26 : decode cX7_isOrder 26 = .ok (.goto (-22), 3) := by decide +kernel
theorem dX7_isOrder_29 : decode cX7_isOrder 29 = .ok (.iload_n 2, 1) := by decide +kernel
theorem dX7_isOrder_30 : decode cX7_isOrder 30 = .ok (.iconst 1, 1) := by decide +kernel
theorem dX7_isOrder_31 : decode cX7_isOrder 31 = .ok (.aload_n 0, 1) := by decide +kernel
theorem dX7_isOrder_32 : decode cX7_isOrder 32 = .ok (.getfield 101, 3) := by decide +kernel
theorem dX7_isOrder_35 : decode cX7_isOrder 35 = .ok (.ishl, 1) := by decide +kernel
theorem dX7_isOrder_36 : decode cX7_isOrder 36 = .ok (.iconst 1, 1) := by decide +kernel
theorem dX7_isOrder_37 : decode cX7_isOrder 37 = .ok (.isub, 1) := by decide +kernel
theorem dX7_isOrder_38 : decode cX7_isOrder 38 = .ok (.if_icmp .ne 7, 3) := by decide +kernel
theorem dX7_isOrder_41 : decode cX7_isOrder 41 = .ok (.iconst 1, 1) := by decide +kernel
theorem dX7_isOrder_42 : decode cX7_isOrder 42 = .ok (.goto 4, 3) := by decide +kernel
theorem dX7_isOrder_45 : decode cX7_isOrder 45 = .ok (.iconst 0, 1) := by decide +kernel
theorem dX7_isOrder_46 : decode cX7_isOrder 46 = .ok (.ireturn, 1) := by decide +kernel
theorem dX7_figuresOf_0 : decode cX7_figuresOf 0 = .ok (.iconst 0, 1) := by decide +kernel
theorem dX7_figuresOf_1 : decode cX7_figuresOf 1 = .ok (.istore_n 2, 1) := by decide +kernel
theorem dX7_figuresOf_2 : decode cX7_figuresOf 2 = .ok (.iconst 0, 1) := by decide +kernel
theorem dX7_figuresOf_3 : decode cX7_figuresOf 3 = .ok (.istore_n 3, 1) := by decide +kernel
theorem dX7_figuresOf_4 : decode cX7_figuresOf 4 = .ok (.iload_n 3, 1) := by decide +kernel
theorem dX7_figuresOf_5 : decode cX7_figuresOf 5 = .ok (.aload_n 0, 1) := by decide +kernel
theorem dX7_figuresOf_6 : decode cX7_figuresOf 6 = .ok (.getfield 101, 3) := by decide +kernel
theorem dX7_figuresOf_9 : decode cX7_figuresOf 9 = .ok (.if_icmp .ge 21, 3) := by decide +kernel
theorem dX7_figuresOf_12 : decode cX7_figuresOf 12 = .ok (.bipush 10, 2) := by decide +kernel
theorem dX7_figuresOf_14 : decode cX7_figuresOf 14 = .ok (.iload_n 2, 1) := by decide +kernel
theorem dX7_figuresOf_15 : decode cX7_figuresOf 15 = .ok (.imul, 1) := by decide +kernel
theorem dX7_figuresOf_16 : decode cX7_figuresOf 16 = .ok (.aload_n 0, 1) := by decide +kernel
theorem dX7_figuresOf_17 : decode cX7_figuresOf 17 = .ok (.iload_n 1, 1) := by decide +kernel
theorem dX7_figuresOf_18 : decode cX7_figuresOf 18 = .ok (.iload_n 3, 1) := by decide +kernel
theorem dX7_figuresOf_19 : decode cX7_figuresOf 19 = .ok (.invokevirtual 223, 3) := by decide +kernel
theorem dX7_figuresOf_22 : decode cX7_figuresOf 22 = .ok (.iadd, 1) := by decide +kernel
theorem dX7_figuresOf_23 : decode cX7_figuresOf 23 = .ok (.istore_n 2, 1) := by decide +kernel
theorem dX7_figuresOf_24 : decode cX7_figuresOf 24 = .ok (.iinc 3 1, 3) := by decide +kernel
theorem dX7_figuresOf_27 : decode cX7_figuresOf 27 = .ok (.goto (-23), 3) := by decide +kernel
theorem dX7_figuresOf_30 : decode cX7_figuresOf 30 = .ok (.iload_n 2, 1) := by decide +kernel
theorem dX7_figuresOf_31 : decode cX7_figuresOf 31 = .ok (.ireturn, 1) := by decide +kernel
theorem dX7_layTrial_0 : decode cX7_layTrial 0 = .ok (.iconst 0, 1) := by decide +kernel
theorem dX7_layTrial_1 : decode cX7_layTrial 1 = .ok (.istore_n 1, 1) := by decide +kernel
theorem dX7_layTrial_2 : decode cX7_layTrial 2 = .ok (.iload_n 1, 1) := by decide +kernel
theorem dX7_layTrial_3 : decode cX7_layTrial 3 = .ok (.bipush 32, 2) := by decide +kernel
theorem dX7_layTrial_5 : decode cX7_layTrial 5 = .ok (.if_icmp .ge 21, 3) := by decide +kernel
theorem dX7_layTrial_8 : decode cX7_layTrial 8 = .ok (.aload_n 0, 1) := by decide +kernel
theorem dX7_layTrial_9 : decode cX7_layTrial 9 = .ok (.getfield 16, 3) := by decide +kernel
theorem dX7_layTrial_12 : decode cX7_layTrial 12 = .ok (.iload_n 1, 1) := by decide +kernel
theorem dX7_layTrial_13 : decode cX7_layTrial 13 = .ok (.aload_n 0, 1) := by decide +kernel
theorem dX7_layTrial_14 : decode cX7_layTrial 14 = .ok (.getfield 13, 3) := by decide +kernel
theorem dX7_layTrial_17 : decode cX7_layTrial 17 = .ok (.iload_n 1, 1) := by decide +kernel
theorem dX7_layTrial_18 : decode cX7_layTrial 18 = .ok (.iaload, 1) := by decide +kernel
theorem dX7_layTrial_19 : decode cX7_layTrial 19 = .ok (.iastore, 1) := by decide +kernel
theorem dX7_layTrial_20 : decode cX7_layTrial 20 = .ok (.iinc 1 1, 3) := by decide +kernel
theorem dX7_layTrial_23 : decode cX7_layTrial 23 = .ok (.goto (-21), 3) := by decide +kernel
theorem dX7_layTrial_26 : decode cX7_layTrial 26 = .ok (.return_, 1) := by decide +kernel
theorem dX7_best_0 : decode cX7_best 0 = .ok (.iload_n 1, 1) := by decide +kernel
theorem dX7_best_1 : decode cX7_best 1 = .ok (.i2l, 1) := by decide +kernel
theorem dX7_best_2 : decode cX7_best 2 = .ok (.lconst 0, 1) := by decide +kernel
theorem dX7_best_3 : decode cX7_best 3 = .ok (.ldc2_w 226, 3) := by decide +kernel
theorem dX7_best_6 : decode cX7_best 6 = .ok (.invokestatic 78, 3) := by decide +kernel
theorem dX7_best_9 : decode cX7_best 9 = .ok (.ifCond .ne 6, 3) := by decide +kernel
theorem dX7_best_12 : decode cX7_best 12 = .ok (.bipush (-2), 2) := by decide +kernel
theorem dX7_best_14 : decode cX7_best 14 = .ok (.ireturn, 1) := by decide +kernel
theorem dX7_best_15 : decode cX7_best 15 = .ok (.aload_n 0, 1) := by decide +kernel
theorem dX7_best_16 : decode cX7_best 16 = .ok (.invokevirtual 228, 3) := by decide +kernel
theorem dX7_best_19 : decode cX7_best 19 = .ok (.bipush (-9), 2) := by decide +kernel
theorem dX7_best_21 : decode cX7_best 21 = .ok (.istore_n 2, 1) := by decide +kernel
theorem dX7_best_22 : decode cX7_best 22 = .ok (.iconst 0, 1) := by decide +kernel
theorem dX7_best_23 : decode cX7_best 23 = .ok (.istore_n 3, 1) := by decide +kernel
theorem dX7_best_24 : decode cX7_best 24 = .ok (.iconst 0, 1) := by decide +kernel
theorem dX7_best_25 : decode cX7_best 25 = .ok (.istore 4, 2) := by decide +kernel
theorem dX7_best_27 : decode cX7_best 27 = .ok (.iconst 0, 1) := by decide +kernel
theorem dX7_best_28 : decode cX7_best 28 = .ok (.istore 5, 2) := by decide +kernel
theorem dX7_best_30 : decode cX7_best 30 = .ok (.iload 5, 2) := by decide +kernel
theorem dX7_best_32 : decode cX7_best 32 = .ok (.iconst 1, 1) := by decide +kernel
theorem dX7_best_33 : decode cX7_best 33 = .ok (.iconst 2, 1) := by decide +kernel
theorem dX7_best_34 : decode cX7_best 34 = .ok (.aload_n 0, 1) := by decide +kernel
theorem dX7_best_35 : decode cX7_best 35 = .ok (.getfield 101, 3) := by decide +kernel
theorem dX7_best_38 : decode cX7_best 38 = .ok (.imul, 1) := by decide +kernel
theorem dX7_best_39 : decode cX7_best 39 = .ok (.ishl, 1) := by decide +kernel
theorem dX7_best_40 : decode cX7_best 40 = .ok (.if_icmp .ge 134, 3) := by decide +kernel
theorem dX7_best_43 : decode cX7_best 43 = .ok (.aload_n 0, 1) := by decide +kernel
theorem dX7_best_44 : decode cX7_best 44 = .ok (.iload 5, 2) := by decide +kernel
theorem dX7_best_46 : decode cX7_best 46 = .ok (.invokevirtual 231, 3) := by decide +kernel
theorem dX7_best_49 : decode cX7_best 49 = .ok (.ifCond .eq 119, 3) := by decide +kernel
theorem dX7_best_52 : decode cX7_best 52 = .ok (.iconst 0, 1) := by decide +kernel
theorem dX7_best_53 : decode cX7_best 53 = .ok (.istore 6, 2) := by decide +kernel
theorem dX7_best_55 : decode cX7_best 55 = .ok (.iload 6, 2) := by decide +kernel
theorem dX7_best_57 : decode cX7_best 57 = .ok (.aload_n 0, 1) := by decide +kernel
theorem dX7_best_58 : decode cX7_best 58 = .ok (.getfield 101, 3) := by decide +kernel
theorem dX7_best_61 : decode cX7_best 61 = .ok (.if_icmp .ge 24, 3) := by decide +kernel
theorem dX7_best_64 : decode cX7_best 64 = .ok (.aload_n 0, 1) := by decide +kernel
theorem dX7_best_65 : decode cX7_best 65 = .ok (.getfield 16, 3) := by decide +kernel
theorem dX7_best_68 : decode cX7_best 68 = .ok (.iload 6, 2) := by decide +kernel
theorem dX7_best_70 : decode cX7_best 70 = .ok (.aload_n 0, 1) := by decide +kernel
theorem dX7_best_71 : decode cX7_best 71 = .ok (.iload 5, 2) := by decide +kernel
theorem dX7_best_73 : decode cX7_best 73 = .ok (.iload 6, 2) := by decide +kernel
theorem dX7_best_75 : decode cX7_best 75 = .ok (.invokevirtual 223, 3) := by decide +kernel
theorem dX7_best_78 : decode cX7_best 78 = .ok (.iastore, 1) := by decide +kernel
theorem dX7_best_79 : decode cX7_best 79 = .ok (.iinc 6 1, 3) := by decide +kernel
theorem dX7_best_82 : decode cX7_best 82 = .ok (.goto (-27), 3) := by decide +kernel
theorem dX7_best_85 : decode cX7_best 85 = .ok (.aload_n 0, 1) := by decide +kernel
theorem dX7_best_86 : decode cX7_best 86 = .ok (.aload_n 0, 1) := by decide +kernel
theorem dX7_best_87 : decode cX7_best 87 = .ok (.getfield 16, 3) := by decide +kernel
theorem dX7_best_90 : decode cX7_best 90 = .ok (.invokevirtual 181, 3) := by decide +kernel
theorem dX7_best_93 : decode cX7_best 93 = .ok (.istore 6, 2) := by decide +kernel
theorem dX7_best_95 : decode cX7_best 95 = .ok (.iload_n 2, 1) := by decide +kernel
theorem dX7_best_96 : decode cX7_best 96 = .ok (.bipush (-9), 2) := by decide +kernel
theorem dX7_best_98 : decode cX7_best 98 = .ok (.if_icmp .eq 9, 3) := by decide +kernel
theorem dX7_best_101 : decode cX7_best 101 = .ok (.iload 6, 2) := by decide +kernel
theorem dX7_best_103 : decode cX7_best 103 = .ok (.iload_n 2, 1) := by decide +kernel
theorem dX7_best_104 : decode cX7_best 104 = .ok (.if_icmp .ge 7, 3) := by decide +kernel
theorem dX7_best_107 : decode cX7_best 107 = .ok (.iconst 1, 1) := by decide +kernel
theorem dX7_best_108 : decode cX7_best 108 = .ok (.goto 4, 3) := by decide +kernel
theorem dX7_best_111 : decode cX7_best 111 = .ok (.iconst 0, 1) := by decide +kernel
theorem dX7_best_112 : decode cX7_best 112 = .ok (.istore 7, 2) := by decide +kernel
theorem dX7_best_114 : decode cX7_best 114 = .ok (.iload 7, 2) := by decide +kernel
theorem dX7_best_116 : decode cX7_best 116 = .ok (.ifCond .eq 12, 3) := by decide +kernel
theorem dX7_best_119 : decode cX7_best 119 = .ok (.aload_n 0, 1) := by decide +kernel
theorem dX7_best_120 : decode cX7_best 120 = .ok (.iload 5, 2) := by decide +kernel
theorem dX7_best_122 : decode cX7_best 122 = .ok (.invokevirtual 234, 3) := by decide +kernel
theorem dX7_best_125 : decode cX7_best 125 = .ok (.goto 4, 3) := by decide +kernel
theorem dX7_best_128 : decode cX7_best 128 = .ok (.iload_n 3, 1) := by decide +kernel
theorem dX7_best_129 : decode cX7_best 129 = .ok (.istore_n 3, 1) := by decide +kernel
theorem dX7_best_130 : decode cX7_best 130 = .ok (.iload 7, 2) := by decide +kernel
theorem dX7_best_132 : decode cX7_best 132 = .ok (.ifCond .eq 7, 3) := by decide +kernel
theorem dX7_best_135 : decode cX7_best 135 = .ok (.iconst 1, 1) := by decide +kernel
theorem dX7_best_136 : decode cX7_best 136 = .ok (.goto 18, 3) := by decide +kernel
theorem dX7_best_139 : decode cX7_best 139 = .ok (.iload 6, 2) := by decide +kernel
theorem dX7_best_141 : decode cX7_best 141 = .ok (.iload_n 2, 1) := by decide +kernel
theorem dX7_best_142 : decode cX7_best 142 = .ok (.if_icmp .ne 10, 3) := by decide +kernel
theorem dX7_best_145 : decode cX7_best 145 = .ok (.iload 4, 2) := by decide +kernel
theorem dX7_best_147 : decode cX7_best 147 = .ok (.iconst 1, 1) := by decide +kernel
theorem dX7_best_148 : decode cX7_best 148 = .ok (.iadd, 1) := by decide +kernel
theorem dX7_best_149 : decode cX7_best 149 = .ok (.goto 5, 3) := by decide +kernel
theorem dX7_best_152 : decode cX7_best 152 = .ok (.iload 4, 2) := by decide +kernel
theorem dX7_best_154 : decode cX7_best 154 = .ok (.istore 4, 2) := by decide +kernel
theorem dX7_best_156 : decode cX7_best 156 = .ok (.iload 7, 2) := by decide +kernel
theorem dX7_best_158 : decode cX7_best 158 = .ok (.ifCond .eq 8, 3) := by decide +kernel
theorem dX7_best_161 : decode cX7_best 161 = .ok (.iload 6, 2) := by decide +kernel
theorem dX7_best_163 : decode cX7_best 163 = .ok (.goto 4, 3) := by decide +kernel
theorem dX7_best_166 : decode cX7_best 166 = .ok (.iload_n 2, 1) := by decide +kernel
theorem dX7_best_167 : decode cX7_best 167 = .ok (.istore_n 2, 1) := by decide +kernel
theorem dX7_best_168 : decode cX7_best 168 = .ok (.iinc 5 1, 3) := by decide +kernel
theorem dX7_best_171 : decode cX7_best 171 = .ok (.goto (-141), 3) := by decide +kernel
theorem dX7_best_174 : decode cX7_best 174 = .ok (.iload_n 1, 1) := by decide +kernel
theorem dX7_best_175 : decode cX7_best 175 = .ok (.ifCond .ne 7, 3) := by decide +kernel
theorem dX7_best_178 : decode cX7_best 178 = .ok (.iload_n 2, 1) := by decide +kernel
theorem dX7_best_179 : decode cX7_best 179 = .ok (.goto 14, 3) := by decide +kernel
theorem dX7_best_182 : decode cX7_best 182 = .ok (.iload_n 1, 1) := by decide +kernel
theorem dX7_best_183 : decode cX7_best 183 = .ok (.iconst 1, 1) := by decide +kernel
theorem dX7_best_184 : decode cX7_best 184 = .ok (.if_icmp .ne 7, 3) := by decide +kernel
theorem dX7_best_187 : decode cX7_best 187 = .ok (.iload_n 3, 1) := by decide +kernel
theorem dX7_best_188 : decode cX7_best 188 = .ok (.goto 5, 3) := by decide +kernel
theorem dX7_best_191 : decode cX7_best 191 = .ok (.iload 4, 2) := by decide +kernel
theorem dX7_best_193 : decode cX7_best 193 = .ok (.ireturn, 1) := by decide +kernel
theorem dX7_judged_0 : decode cX7_judged 0 = .ok (.iload_n 1, 1) := by decide +kernel
theorem dX7_judged_1 : decode cX7_judged 1 = .ok (.tableswitch 257 1 6 #[39, 74, 109, 151, 192, 230], 39) := by decide +kernel
theorem dX7_judged_40 : decode cX7_judged 40 = .ok (.iload_n 2, 1) := by decide +kernel
theorem dX7_judged_41 : decode cX7_judged 41 = .ok (.ifCond .ne 20, 3) := by decide +kernel
theorem dX7_judged_44 : decode cX7_judged 44 = .ok (.aload_n 0, 1) := by decide +kernel
theorem dX7_judged_45 : decode cX7_judged 45 = .ok (.iload_n 3, 1) := by decide +kernel
theorem dX7_judged_46 : decode cX7_judged 46 = .ok (.invokevirtual 196, 3) := by decide +kernel
theorem dX7_judged_49 : decode cX7_judged 49 = .ok (.ifCond .eq 12, 3) := by decide +kernel
theorem dX7_judged_52 : decode cX7_judged 52 = .ok (.aload_n 0, 1) := by decide +kernel
theorem dX7_judged_53 : decode cX7_judged 53 = .ok (.iload 4, 2) := by decide +kernel
theorem dX7_judged_55 : decode cX7_judged 55 = .ok (.invokevirtual 196, 3) := by decide +kernel
theorem dX7_judged_58 : decode cX7_judged 58 = .ok (.ifCond .ne 5, 3) := by decide +kernel
theorem dX7_judged_61 : decode cX7_judged 61 = .ok (.iconst 0, 1) := by decide +kernel
theorem dX7_judged_62 : decode cX7_judged 62 = .ok (.ireturn, 1) := by decide +kernel
theorem dX7_judged_63 : decode cX7_judged 63 = .ok (.aload_n 0, 1) := by decide +kernel
theorem dX7_judged_64 : decode cX7_judged 64 = .ok (.getfield 16, 3) := by decide +kernel
theorem dX7_judged_67 : decode cX7_judged 67 = .ok (.iload_n 3, 1) := by decide +kernel
theorem dX7_judged_68 : decode cX7_judged 68 = .ok (.iload 4, 2) := by decide +kernel
theorem dX7_judged_70 : decode cX7_judged 70 = .ok (.invokestatic 212, 3) := by decide +kernel
theorem dX7_judged_73 : decode cX7_judged 73 = .ok (.iconst 1, 1) := by decide +kernel
theorem dX7_judged_74 : decode cX7_judged 74 = .ok (.ireturn, 1) := by decide +kernel
theorem dX7_judged_75 : decode cX7_judged 75 = .ok (.aload_n 0, 1) := by decide +kernel
theorem dX7_judged_76 : decode cX7_judged 76 = .ok (.iload_n 2, 1) := by decide +kernel
theorem dX7_judged_77 : decode cX7_judged 77 = .ok (.invokevirtual 196, 3) := by decide +kernel
theorem dX7_judged_80 : decode cX7_judged 80 = .ok (.ifCond .eq 12, 3) := by decide +kernel
theorem dX7_judged_83 : decode cX7_judged 83 = .ok (.iload_n 3, 1) := by decide +kernel
theorem dX7_judged_84 : decode cX7_judged 84 = .ok (.iload 4, 2) := by decide +kernel
theorem dX7_judged_86 : decode cX7_judged 86 = .ok (.invokestatic 216, 3) := by decide +kernel
theorem dX7_judged_89 : decode cX7_judged 89 = .ok (.ifCond .ne 5, 3) := by decide +kernel
theorem dX7_judged_92 : decode cX7_judged 92 = .ok (.iconst 0, 1) := by decide +kernel
theorem dX7_judged_93 : decode cX7_judged 93 = .ok (.ireturn, 1) := by decide +kernel
theorem dX7_judged_94 : decode cX7_judged 94 = .ok (.aload_n 0, 1) := by decide +kernel
theorem dX7_judged_95 : decode cX7_judged 95 = .ok (.getfield 16, 3) := by decide +kernel
theorem dX7_judged_98 : decode cX7_judged 98 = .ok (.iconst 4, 1) := by decide +kernel
theorem dX7_judged_99 : decode cX7_judged 99 = .ok (.iconst 4, 1) := by decide +kernel
theorem dX7_judged_100 : decode cX7_judged 100 = .ok (.iload_n 2, 1) := by decide +kernel
theorem dX7_judged_101 : decode cX7_judged 101 = .ok (.imul, 1) := by decide +kernel
theorem dX7_judged_102 : decode cX7_judged 102 = .ok (.iadd, 1) := by decide +kernel
theorem dX7_judged_103 : decode cX7_judged 103 = .ok (.iload_n 3, 1) := by decide +kernel
theorem dX7_judged_104 : decode cX7_judged 104 = .ok (.iadd, 1) := by decide +kernel
theorem dX7_judged_105 : decode cX7_judged 105 = .ok (.iload 4, 2) := by decide +kernel
theorem dX7_judged_107 : decode cX7_judged 107 = .ok (.iastore, 1) := by decide +kernel
theorem dX7_judged_108 : decode cX7_judged 108 = .ok (.iconst 1, 1) := by decide +kernel
theorem dX7_judged_109 : decode cX7_judged 109 = .ok (.ireturn, 1) := by decide +kernel
theorem dX7_judged_110 : decode cX7_judged 110 = .ok (.aload_n 0, 1) := by decide +kernel
theorem dX7_judged_111 : decode cX7_judged 111 = .ok (.iload_n 2, 1) := by decide +kernel
theorem dX7_judged_112 : decode cX7_judged 112 = .ok (.invokevirtual 190, 3) := by decide +kernel
theorem dX7_judged_115 : decode cX7_judged 115 = .ok (.ifCond .eq 35, 3) := by decide +kernel
theorem dX7_judged_118 : decode cX7_judged 118 = .ok (.aload_n 0, 1) := by decide +kernel
theorem dX7_judged_119 : decode cX7_judged 119 = .ok (.iload_n 3, 1) := by decide +kernel
theorem dX7_judged_120 : decode cX7_judged 120 = .ok (.invokevirtual 193, 3) := by decide +kernel
theorem dX7_judged_123 : decode cX7_judged 123 = .ok (.ifCond .eq 27, 3) := by decide +kernel
theorem dX7_judged_126 : decode cX7_judged 126 = .ok (.aload_n 0, 1) := by decide +kernel
theorem dX7_judged_127 : decode cX7_judged 127 = .ok (.aload_n 0, 1) := by decide +kernel
theorem dX7_judged_128 : decode cX7_judged 128 = .ok (.getfield 16, 3) := by decide +kernel
theorem dX7_judged_131 : decode cX7_judged 131 = .ok (.iload_n 2, 1) := by decide +kernel
theorem dX7_judged_132 : decode cX7_judged 132 = .ok (.iload_n 3, 1) := by decide +kernel
theorem dX7_judged_133 : decode cX7_judged 133 = .ok (.bipush 15, 2) := by decide +kernel
theorem dX7_judged_135 : decode cX7_judged 135 = .ok (.invokevirtual 170, 3) := by decide +kernel
theorem dX7_judged_138 : decode cX7_judged 138 = .ok (.invokestatic 69, 3) := by decide +kernel
theorem dX7_judged_141 : decode cX7_judged 141 = .ok (.iload 4, 2) := by decide +kernel
theorem dX7_judged_143 : decode cX7_judged 143 = .ok (.if_icmp .ne 7, 3) := by decide +kernel
theorem dX7_judged_146 : decode cX7_judged 146 = .ok (.iconst 1, 1) := by decide +kernel
theorem dX7_judged_147 : decode cX7_judged 147 = .ok (.goto 4, 3) := by decide +kernel
theorem dX7_judged_150 : decode cX7_judged 150 = .ok (.iconst 0, 1) := by decide +kernel
theorem dX7_judged_151 : decode cX7_judged 151 = .ok (.ireturn, 1) := by decide +kernel
theorem dX7_judged_152 : decode cX7_judged 152 = .ok (.iload_n 2, 1) := by decide +kernel
theorem dX7_judged_153 : decode cX7_judged 153 = .ok (.ifCond .ne 38, 3) := by decide +kernel
theorem dX7_judged_156 : decode cX7_judged 156 = .ok (.aload_n 0, 1) := by decide +kernel
theorem dX7_judged_157 : decode cX7_judged 157 = .ok (.iload_n 3, 1) := by decide +kernel
theorem dX7_judged_158 : decode cX7_judged 158 = .ok (.invokevirtual 196, 3) := by decide +kernel
theorem dX7_judged_161 : decode cX7_judged 161 = .ok (.ifCond .eq 30, 3) := by decide +kernel
theorem dX7_judged_164 : decode cX7_judged 164 = .ok (.aload_n 0, 1) := by decide +kernel
theorem dX7_judged_165 : decode cX7_judged 165 = .ok (.iload 4, 2) := by decide +kernel
theorem dX7_judged_167 : decode cX7_judged 167 = .ok (.invokevirtual 196, 3) := by decide +kernel
theorem dX7_judged_170 : decode cX7_judged 170 = .ok (.ifCond .eq 21, 3) := by decide +kernel
theorem dX7_judged_173 : decode cX7_judged 173 = .ok (.aload_n 0, 1) := by decide +kernel
theorem dX7_judged_174 : decode cX7_judged 174 = .ok (.aload_n 0, 1) := by decide +kernel
theorem dX7_judged_175 : decode cX7_judged 175 = .ok (.getfield 16, 3) := by decide +kernel
theorem dX7_judged_178 : decode cX7_judged 178 = .ok (.iload_n 3, 1) := by decide +kernel
theorem dX7_judged_179 : decode cX7_judged 179 = .ok (.iload 4, 2) := by decide +kernel
theorem dX7_judged_181 : decode cX7_judged 181 = .ok (.invokevirtual 219, 3) := by decide +kernel
theorem dX7_judged_184 : decode cX7_judged 184 = .ok (.ifCond .eq 7, 3) := by decide +kernel
theorem dX7_judged_187 : decode cX7_judged 187 = .ok (.iconst 1, 1) := by decide +kernel
theorem dX7_judged_188 : decode cX7_judged 188 = .ok (.goto 4, 3) := by decide +kernel
theorem dX7_judged_191 : decode cX7_judged 191 = .ok (.iconst 0, 1) := by decide +kernel
theorem dX7_judged_192 : decode cX7_judged 192 = .ok (.ireturn, 1) := by decide +kernel
theorem dX7_judged_193 : decode cX7_judged 193 = .ok (.aload_n 0, 1) := by decide +kernel
theorem dX7_judged_194 : decode cX7_judged 194 = .ok (.iload_n 2, 1) := by decide +kernel
theorem dX7_judged_195 : decode cX7_judged 195 = .ok (.invokevirtual 196, 3) := by decide +kernel
theorem dX7_judged_198 : decode cX7_judged 198 = .ok (.ifCond .eq 31, 3) := by decide +kernel
theorem dX7_judged_201 : decode cX7_judged 201 = .ok (.iload_n 3, 1) := by decide +kernel
theorem dX7_judged_202 : decode cX7_judged 202 = .ok (.ifCond .ne 27, 3) := by decide +kernel
theorem dX7_judged_205 : decode cX7_judged 205 = .ok (.iload 4, 2) := by decide +kernel
theorem dX7_judged_207 : decode cX7_judged 207 = .ok (.ifCond .ne 22, 3) := by decide +kernel
theorem dX7_judged_210 : decode cX7_judged 210 = .ok (.aload_n 0, 1) := by decide +kernel
theorem dX7_judged_211 : decode cX7_judged 211 = .ok (.aload_n 0, 1) := by decide +kernel
theorem dX7_judged_212 : decode cX7_judged 212 = .ok (.getfield 16, 3) := by decide +kernel
theorem dX7_judged_215 : decode cX7_judged 215 = .ok (.invokevirtual 177, 3) := by decide +kernel
theorem dX7_judged_218 : decode cX7_judged 218 = .ok (.iload_n 2, 1) := by decide +kernel
theorem dX7_judged_219 : decode cX7_judged 219 = .ok (.invokestatic 88, 3) := by decide +kernel
theorem dX7_judged_222 : decode cX7_judged 222 = .ok (.ifCond .eq 7, 3) := by decide +kernel
theorem dX7_judged_225 : decode cX7_judged 225 = .ok (.iconst 1, 1) := by decide +kernel
theorem dX7_judged_226 : decode cX7_judged 226 = .ok (.goto 4, 3) := by decide +kernel
theorem dX7_judged_229 : decode cX7_judged 229 = .ok (.iconst 0, 1) := by decide +kernel
theorem dX7_judged_230 : decode cX7_judged 230 = .ok (.ireturn, 1) := by decide +kernel
theorem dX7_judged_231 : decode cX7_judged 231 = .ok (.iload_n 2, 1) := by decide +kernel
theorem dX7_judged_232 : decode cX7_judged 232 = .ok (.ifCond .ne 24, 3) := by decide +kernel
theorem dX7_judged_235 : decode cX7_judged 235 = .ok (.iload_n 3, 1) := by decide +kernel
theorem dX7_judged_236 : decode cX7_judged 236 = .ok (.ifCond .ne 20, 3) := by decide +kernel
theorem dX7_judged_239 : decode cX7_judged 239 = .ok (.aload_n 0, 1) := by decide +kernel
theorem dX7_judged_240 : decode cX7_judged 240 = .ok (.aload_n 0, 1) := by decide +kernel
theorem dX7_judged_241 : decode cX7_judged 241 = .ok (.getfield 16, 3) := by decide +kernel
theorem dX7_judged_244 : decode cX7_judged 244 = .ok (.invokevirtual 181, 3) := by decide +kernel
theorem dX7_judged_247 : decode cX7_judged 247 = .ok (.iload 4, 2) := by decide +kernel
theorem dX7_judged_249 : decode cX7_judged 249 = .ok (.if_icmp .gt 7, 3) := by decide +kernel
theorem dX7_judged_252 : decode cX7_judged 252 = .ok (.iconst 1, 1) := by decide +kernel
theorem dX7_judged_253 : decode cX7_judged 253 = .ok (.goto 4, 3) := by decide +kernel
theorem dX7_judged_256 : decode cX7_judged 256 = .ok (.iconst 0, 1) := by decide +kernel
theorem dX7_judged_257 : decode cX7_judged 257 = .ok (.ireturn, 1) := by decide +kernel
theorem dX7_judged_258 : decode cX7_judged 258 = .ok (.iconst 0, 1) := by decide +kernel
theorem dX7_judged_259 : decode cX7_judged 259 = .ok (.ireturn, 1) := by decide +kernel
theorem dX7_tenThousands_0 : decode cX7_tenThousands 0 = .ok (.lconst 1, 1) := by decide +kernel
theorem dX7_tenThousands_1 : decode cX7_tenThousands 1 = .ok (.lstore_n 1, 1) := by decide +kernel
theorem dX7_tenThousands_2 : decode cX7_tenThousands 2 = .ok (.iconst 0, 1) := by decide +kernel
theorem dX7_tenThousands_3 : decode cX7_tenThousands 3 = .ok (.istore_n 3, 1) := by decide +kernel
theorem dX7_tenThousands_4 : decode cX7_tenThousands 4 = .ok (.iload_n 3, 1) := by decide +kernel
theorem dX7_tenThousands_5 : decode cX7_tenThousands 5 = .ok (.iload_n 0, 1) := by decide +kernel
theorem dX7_tenThousands_6 : decode cX7_tenThousands 6 = .ok (.if_icmp .ge 15, 3) := by decide +kernel
theorem dX7_tenThousands_9 : decode cX7_tenThousands 9 = .ok (.lload_n 1, 1) := by decide +kernel
theorem dX7_tenThousands_10 : decode cX7_tenThousands 10 = .ok (.ldc2_w 237, 3) := by decide +kernel
theorem dX7_tenThousands_13 : decode cX7_tenThousands 13 = .ok (.lmul, 1) := by decide +kernel
theorem dX7_tenThousands_14 : decode cX7_tenThousands 14 = .ok (.lstore_n 1, 1) := by decide +kernel
theorem dX7_tenThousands_15 : decode cX7_tenThousands 15 = .ok (.iinc 3 1, 3) := by decide +kernel
theorem dX7_tenThousands_18 : decode cX7_tenThousands 18 = .ok (.goto (-14), 3) := by decide +kernel
theorem dX7_tenThousands_21 : decode cX7_tenThousands 21 = .ok (.lload_n 1, 1) := by decide +kernel
theorem dX7_tenThousands_22 : decode cX7_tenThousands 22 = .ok (.lreturn, 1) := by decide +kernel
theorem dX7_judge_0 : decode cX7_judge 0 = .ok (.iload_n 1, 1) := by decide +kernel
theorem dX7_judge_1 : decode cX7_judge 1 = .ok (.i2l, 1) := by decide +kernel
theorem dX7_judge_2 : decode cX7_judge 2 = .ok (.lconst 1, 1) := by decide +kernel
theorem dX7_judge_3 : decode cX7_judge 3 = .ok (.ldc2_w 239, 3) := by decide +kernel
theorem dX7_judge_6 : decode cX7_judge 6 = .ok (.invokestatic 78, 3) := by decide +kernel
theorem dX7_judge_9 : decode cX7_judge 9 = .ok (.ifCond .eq 17, 3) := by decide +kernel
theorem dX7_judge_12 : decode cX7_judge 12 = .ok (.lload_n 2, 1) := by decide +kernel
theorem dX7_judge_13 : decode cX7_judge 13 = .ok (.lconst 0, 1) := by decide +kernel
theorem dX7_judge_14 : decode cX7_judge 14 = .ok (.iload_n 1, 1) := by decide +kernel
theorem dX7_judge_15 : decode cX7_judge 15 = .ok (.invokestatic 241, 3) := by decide +kernel
theorem dX7_judge_18 : decode cX7_judge 18 = .ok (.lconst 1, 1) := by decide +kernel
theorem dX7_judge_19 : decode cX7_judge 19 = .ok (.lsub, 1) := by decide +kernel
theorem dX7_judge_20 : decode cX7_judge 20 = .ok (.invokestatic 78, 3) := by decide +kernel
theorem dX7_judge_23 : decode cX7_judge 23 = .ok (.ifCond .ne 6, 3) := by decide +kernel
theorem dX7_judge_26 : decode cX7_judge 26 = .ok (.bipush (-2), 2) := by decide +kernel
theorem dX7_judge_28 : decode cX7_judge 28 = .ok (.ireturn, 1) := by decide +kernel
theorem dX7_judge_29 : decode cX7_judge 29 = .ok (.aload_n 0, 1) := by decide +kernel
theorem dX7_judge_30 : decode cX7_judge 30 = .ok (.invokevirtual 228, 3) := by decide +kernel
theorem dX7_judge_33 : decode cX7_judge 33 = .ok (.iconst 0, 1) := by decide +kernel
theorem dX7_judge_34 : decode cX7_judge 34 = .ok (.istore 4, 2) := by decide +kernel
theorem dX7_judge_36 : decode cX7_judge 36 = .ok (.iload 4, 2) := by decide +kernel
theorem dX7_judge_38 : decode cX7_judge 38 = .ok (.iload_n 1, 1) := by decide +kernel
theorem dX7_judge_39 : decode cX7_judge 39 = .ok (.if_icmp .ge 64, 3) := by decide +kernel
theorem dX7_judge_42 : decode cX7_judge 42 = .ok (.lload_n 2, 1) := by decide +kernel
theorem dX7_judge_43 : decode cX7_judge 43 = .ok (.iload_n 1, 1) := by decide +kernel
theorem dX7_judge_44 : decode cX7_judge 44 = .ok (.iconst 1, 1) := by decide +kernel
theorem dX7_judge_45 : decode cX7_judge 45 = .ok (.isub, 1) := by decide +kernel
theorem dX7_judge_46 : decode cX7_judge 46 = .ok (.iload 4, 2) := by decide +kernel
theorem dX7_judge_48 : decode cX7_judge 48 = .ok (.isub, 1) := by decide +kernel
theorem dX7_judge_49 : decode cX7_judge 49 = .ok (.invokestatic 241, 3) := by decide +kernel
theorem dX7_judge_52 : decode cX7_judge 52 = .ok (.ldiv, 1) := by decide +kernel
theorem dX7_judge_53 : decode cX7_judge 53 = .ok (.ldc2_w 237, 3) := by decide +kernel
theorem dX7_judge_56 : decode cX7_judge 56 = .ok (.lrem, 1) := by decide +kernel
theorem dX7_judge_57 : decode cX7_judge 57 = .ok (.l2i, 1) := by decide +kernel
theorem dX7_judge_58 : decode cX7_judge 58 = .ok (.istore 5, 2) := by decide +kernel
theorem dX7_judge_60 : decode cX7_judge 60 = .ok (.aload_n 0, 1) := by decide +kernel
theorem dX7_judge_61 : decode cX7_judge 61 = .ok (.iload 5, 2) := by decide +kernel
theorem dX7_judge_63 : decode cX7_judge 63 = .ok (.sipush 1000, 3) := by decide +kernel
theorem dX7_judge_66 : decode cX7_judge 66 = .ok (.idiv, 1) := by decide +kernel
theorem dX7_judge_67 : decode cX7_judge 67 = .ok (.iload 5, 2) := by decide +kernel
theorem dX7_judge_69 : decode cX7_judge 69 = .ok (.bipush 100, 2) := by decide +kernel
theorem dX7_judge_71 : decode cX7_judge 71 = .ok (.idiv, 1) := by decide +kernel
theorem dX7_judge_72 : decode cX7_judge 72 = .ok (.bipush 10, 2) := by decide +kernel
theorem dX7_judge_74 : decode cX7_judge 74 = .ok (.irem, 1) := by decide +kernel
theorem dX7_judge_75 : decode cX7_judge 75 = .ok (.iload 5, 2) := by decide +kernel
theorem dX7_judge_77 : decode cX7_judge 77 = .ok (.bipush 10, 2) := by decide +kernel
theorem dX7_judge_79 : decode cX7_judge 79 = .ok (.idiv, 1) := by decide +kernel
theorem dX7_judge_80 : decode cX7_judge 80 = .ok (.bipush 10, 2) := by decide +kernel
theorem dX7_judge_82 : decode cX7_judge 82 = .ok (.irem, 1) := by decide +kernel
theorem dX7_judge_83 : decode cX7_judge 83 = .ok (.iload 5, 2) := by decide +kernel
theorem dX7_judge_85 : decode cX7_judge 85 = .ok (.bipush 10, 2) := by decide +kernel
theorem dX7_judge_87 : decode cX7_judge 87 = .ok (.irem, 1) := by decide +kernel
theorem dX7_judge_88 : decode cX7_judge 88 = .ok (.invokevirtual 245, 3) := by decide +kernel
theorem dX7_judge_91 : decode cX7_judge 91 = .ok (.ifCond .ne 6, 3) := by decide +kernel
theorem dX7_judge_94 : decode cX7_judge 94 = .ok (.iload 4, 2) := by decide +kernel
theorem dX7_judge_96 : decode cX7_judge 96 = .ok (.ireturn, 1) := by decide +kernel
theorem dX7_judge_97 : decode cX7_judge 97 = .ok (.iinc 4 1, 3) := by decide +kernel
theorem dX7_judge_100 : decode cX7_judge 100 = .ok (.goto (-64), 3) := by decide +kernel
theorem dX7_judge_103 : decode cX7_judge 103 = .ok (.bipush (-9), 2) := by decide +kernel
theorem dX7_judge_105 : decode cX7_judge 105 = .ok (.ireturn, 1) := by decide +kernel
theorem dX7_share_0 : decode cX7_share 0 = .ok (.aload_n 0, 1) := by decide +kernel
theorem dX7_share_1 : decode cX7_share 1 = .ok (.iload_n 1, 1) := by decide +kernel
theorem dX7_share_2 : decode cX7_share 2 = .ok (.invokevirtual 196, 3) := by decide +kernel
theorem dX7_share_5 : decode cX7_share 5 = .ok (.ifCond .ne 5, 3) := by decide +kernel
theorem dX7_share_8 : decode cX7_share 8 = .ok (.iconst (-1), 1) := by decide +kernel
theorem dX7_share_9 : decode cX7_share 9 = .ok (.ireturn, 1) := by decide +kernel
theorem dX7_share_10 : decode cX7_share 10 = .ok (.iconst 0, 1) := by decide +kernel
theorem dX7_share_11 : decode cX7_share 11 = .ok (.istore_n 3, 1) := by decide +kernel
theorem dX7_share_12 : decode cX7_share 12 = .ok (.iload_n 3, 1) := by decide +kernel
theorem dX7_share_13 : decode cX7_share 13 = .ok (.iconst 1, 1) := by decide +kernel
theorem dX7_share_14 : decode cX7_share 14 = .ok (.aload_n 0, 1) := by decide +kernel
theorem dX7_share_15 : decode cX7_share 15 = .ok (.getfield 101, 3) := by decide +kernel
theorem dX7_share_18 : decode cX7_share 18 = .ok (.ishl, 1) := by decide +kernel
theorem dX7_share_19 : decode cX7_share 19 = .ok (.if_icmp .ge 24, 3) := by decide +kernel
theorem dX7_share_22 : decode cX7_share 22 = .ok (.aload_n 0, 1) := by decide +kernel
theorem dX7_share_23 : decode cX7_share 23 = .ok (.getfield 59, 3) := by decide +kernel
theorem dX7_share_26 : decode cX7_share 26 = .ok (.iload_n 3, 1) := by decide +kernel
theorem dX7_share_27 : decode cX7_share 27 = .ok (.aload_n 0, 1) := by decide +kernel
theorem dX7_share_28 : decode cX7_share 28 = .ok (.aload_n 0, 1) := by decide +kernel
theorem dX7_share_29 : decode cX7_share 29 = .ok (.getfield 13, 3) := by decide +kernel
theorem dX7_share_32 : decode cX7_share 32 = .ok (.iload_n 3, 1) := by decide +kernel
theorem dX7_share_33 : decode cX7_share 33 = .ok (.invokevirtual 173, 3) := by decide +kernel
theorem dX7_share_36 : decode cX7_share 36 = .ok (.iastore, 1) := by decide +kernel
theorem dX7_share_37 : decode cX7_share 37 = .ok (.iinc 3 1, 3) := by decide +kernel
theorem dX7_share_40 : decode cX7_share 40 = .ok (.goto (-28), 3) := by decide +kernel
theorem dX7_share_43 : decode cX7_share 43 = .ok (.iconst 0, 1) := by decide +kernel
theorem dX7_share_44 : decode cX7_share 44 = .ok (.istore_n 3, 1) := by decide +kernel
theorem dX7_share_45 : decode cX7_share 45 = .ok (.iconst 0, 1) := by decide +kernel
theorem dX7_share_46 : decode cX7_share 46 = .ok (.istore 4, 2) := by decide +kernel
theorem dX7_share_48 : decode cX7_share 48 = .ok (.iload 4, 2) := by decide +kernel
theorem dX7_share_50 : decode cX7_share 50 = .ok (.iconst 1, 1) := by decide +kernel
theorem dX7_share_51 : decode cX7_share 51 = .ok (.iconst 2, 1) := by decide +kernel
theorem dX7_share_52 : decode cX7_share 52 = .ok (.aload_n 0, 1) := by decide +kernel
theorem dX7_share_53 : decode cX7_share 53 = .ok (.getfield 101, 3) := by decide +kernel
theorem dX7_share_56 : decode cX7_share 56 = .ok (.imul, 1) := by decide +kernel
theorem dX7_share_57 : decode cX7_share 57 = .ok (.ishl, 1) := by decide +kernel
theorem dX7_share_58 : decode cX7_share 58 = .ok (.if_icmp .ge 79, 3) := by decide +kernel
theorem dX7_share_61 : decode cX7_share 61 = .ok (.aload_n 0, 1) := by decide +kernel
theorem dX7_share_62 : decode cX7_share 62 = .ok (.iload 4, 2) := by decide +kernel
theorem dX7_share_64 : decode cX7_share 64 = .ok (.invokevirtual 231, 3) := by decide +kernel
theorem dX7_share_67 : decode cX7_share 67 = .ok (.ifCond .eq 64, 3) := by decide +kernel
theorem dX7_share_70 : decode cX7_share 70 = .ok (.iconst 0, 1) := by decide +kernel
theorem dX7_share_71 : decode cX7_share 71 = .ok (.istore 5, 2) := by decide +kernel
theorem dX7_share_73 : decode cX7_share 73 = .ok (.iconst 0, 1) := by decide +kernel
theorem dX7_share_74 : decode cX7_share 74 = .ok (.istore 6, 2) := by decide +kernel
theorem dX7_share_76 : decode cX7_share 76 = .ok (.aload_n 0, 1) := by decide +kernel
theorem dX7_share_77 : decode cX7_share 77 = .ok (.iload 4, 2) := by decide +kernel
theorem dX7_share_79 : decode cX7_share 79 = .ok (.iload 6, 2) := by decide +kernel
theorem dX7_share_81 : decode cX7_share 81 = .ok (.invokevirtual 223, 3) := by decide +kernel
theorem dX7_share_84 : decode cX7_share 84 = .ok (.iload_n 1, 1) := by decide +kernel
theorem dX7_share_85 : decode cX7_share 85 = .ok (.if_icmp .eq 24, 3) := by decide +kernel
theorem dX7_share_88 : decode cX7_share 88 = .ok (.iload 5, 2) := by decide +kernel
theorem dX7_share_90 : decode cX7_share 90 = .ok (.iconst 1, 1) := by decide +kernel
theorem dX7_share_91 : decode cX7_share 91 = .ok (.aload_n 0, 1) := by decide +kernel
theorem dX7_share_92 : decode cX7_share 92 = .ok (.iload 4, 2) := by decide +kernel
theorem dX7_share_94 : decode cX7_share 94 = .ok (.iload 6, 2) := by decide +kernel
theorem dX7_share_96 : decode cX7_share 96 = .ok (.invokevirtual 223, 3) := by decide +kernel
theorem dX7_share_99 : decode cX7_share 99 = .ok (.ishl, 1) := by decide +kernel
theorem dX7_share_100 : decode cX7_share 100 = .ok (.ior, 1) := by decide +kernel
theorem dX7_share_101 : decode cX7_share 101 = .ok (.istore 5, 2) := by decide +kernel
theorem dX7_share_103 : decode cX7_share 103 = .ok (.iinc 6 1, 3) := by decide +kernel
theorem dX7_share_106 : decode cX7_share 106 = .ok (.goto (-30), 3) := by decide +kernel
theorem dX7_share_109 : decode cX7_share 109 = .ok (.iload_n 3, 1) := by decide +kernel
theorem dX7_share_110 : decode cX7_share 110 = .ok (.aload_n 0, 1) := by decide +kernel
theorem dX7_share_111 : decode cX7_share 111 = .ok (.getfield 59, 3) := by decide +kernel
theorem dX7_share_114 : decode cX7_share 114 = .ok (.iload 5, 2) := by decide +kernel
theorem dX7_share_116 : decode cX7_share 116 = .ok (.iconst 1, 1) := by decide +kernel
theorem dX7_share_117 : decode cX7_share 117 = .ok (.iload_n 1, 1) := by decide +kernel
theorem dX7_share_118 : decode cX7_share 118 = .ok (.ishl, 1) := by decide +kernel
theorem dX7_share_119 : decode cX7_share 119 = .ok (.ior, 1) := by decide +kernel
theorem dX7_share_120 : decode cX7_share 120 = .ok (.iaload, 1) := by decide +kernel
theorem dX7_share_121 : decode cX7_share 121 = .ok (.aload_n 0, 1) := by decide +kernel
theorem dX7_share_122 : decode cX7_share 122 = .ok (.getfield 59, 3) := by decide +kernel
theorem dX7_share_125 : decode cX7_share 125 = .ok (.iload 5, 2) := by decide +kernel
theorem dX7_share_127 : decode cX7_share 127 = .ok (.iaload, 1) := by decide +kernel
theorem dX7_share_128 : decode cX7_share 128 = .ok (.isub, 1) := by decide +kernel
theorem dX7_share_129 : decode cX7_share 129 = .ok (.iadd, 1) := by decide +kernel
theorem dX7_share_130 : decode cX7_share 130 = .ok (.istore_n 3, 1) := by decide +kernel
theorem dX7_share_131 : decode cX7_share 131 = .ok (.iinc 4 1, 3) := by decide +kernel
theorem dX7_share_134 : decode cX7_share 134 = .ok (.goto (-86), 3) := by decide +kernel
theorem dX7_share_137 : decode cX7_share 137 = .ok (.iload_n 3, 1) := by decide +kernel
theorem dX7_share_138 : decode cX7_share 138 = .ok (.aload_n 0, 1) := by decide +kernel
theorem dX7_share_139 : decode cX7_share 139 = .ok (.getfield 101, 3) := by decide +kernel
theorem dX7_share_142 : decode cX7_share 142 = .ok (.invokestatic 249, 3) := by decide +kernel
theorem dX7_share_145 : decode cX7_share 145 = .ok (.iload_n 2, 1) := by decide +kernel
theorem dX7_share_146 : decode cX7_share 146 = .ok (.invokestatic 252, 3) := by decide +kernel
theorem dX7_share_149 : decode cX7_share 149 = .ok (.ireturn, 1) := by decide +kernel
theorem dX7_see_0 : decode cX7_see 0 = .ok (.aload_n 0, 1) := by decide +kernel
theorem dX7_see_1 : decode cX7_see 1 = .ok (.iload_n 1, 1) := by decide +kernel
theorem dX7_see_2 : decode cX7_see 2 = .ok (.invokevirtual 193, 3) := by decide +kernel
theorem dX7_see_5 : decode cX7_see 5 = .ok (.ifCond .ne 5, 3) := by decide +kernel
theorem dX7_see_8 : decode cX7_see 8 = .ok (.iconst (-1), 1) := by decide +kernel
theorem dX7_see_9 : decode cX7_see 9 = .ok (.ireturn, 1) := by decide +kernel
theorem dX7_see_10 : decode cX7_see 10 = .ok (.iload_n 2, 1) := by decide +kernel
theorem dX7_see_11 : decode cX7_see 11 = .ok (.i2l, 1) := by decide +kernel
theorem dX7_see_12 : decode cX7_see 12 = .ok (.lconst 0, 1) := by decide +kernel
theorem dX7_see_13 : decode cX7_see 13 = .ok (.ldc2_w 239, 3) := by decide +kernel
theorem dX7_see_16 : decode cX7_see 16 = .ok (.invokestatic 78, 3) := by decide +kernel
theorem dX7_see_19 : decode cX7_see 19 = .ok (.ifCond .eq 26, 3) := by decide +kernel
theorem dX7_see_22 : decode cX7_see 22 = .ok (.iload_n 3, 1) := by decide +kernel
theorem dX7_see_23 : decode cX7_see 23 = .ok (.i2l, 1) := by decide +kernel
theorem dX7_see_24 : decode cX7_see 24 = .ok (.lconst 1, 1) := by decide +kernel
theorem dX7_see_25 : decode cX7_see 25 = .ok (.ldc2_w 82, 3) := by decide +kernel
theorem dX7_see_28 : decode cX7_see 28 = .ok (.invokestatic 78, 3) := by decide +kernel
theorem dX7_see_31 : decode cX7_see 31 = .ok (.ifCond .eq 14, 3) := by decide +kernel
theorem dX7_see_34 : decode cX7_see 34 = .ok (.iload 4, 2) := by decide +kernel
theorem dX7_see_36 : decode cX7_see 36 = .ok (.i2l, 1) := by decide +kernel
theorem dX7_see_37 : decode cX7_see 37 = .ok (.lconst 0, 1) := by decide +kernel
theorem dX7_see_38 : decode cX7_see 38 = .ok (.lconst 1, 1) := by decide +kernel
theorem dX7_see_39 : decode cX7_see 39 = .ok (.invokestatic 78, 3) := by decide +kernel
theorem dX7_see_42 : decode cX7_see 42 = .ok (.ifCond .ne 6, 3) := by decide +kernel
theorem dX7_see_45 : decode cX7_see 45 = .ok (.bipush (-2), 2) := by decide +kernel
theorem dX7_see_47 : decode cX7_see 47 = .ok (.ireturn, 1) := by decide +kernel
theorem dX7_see_48 : decode cX7_see 48 = .ok (.aload_n 0, 1) := by decide +kernel
theorem dX7_see_49 : decode cX7_see 49 = .ok (.getfield 187, 3) := by decide +kernel
theorem dX7_see_52 : decode cX7_see 52 = .ok (.bipush 6, 2) := by decide +kernel
theorem dX7_see_54 : decode cX7_see 54 = .ok (.if_icmp .ne 6, 3) := by decide +kernel
theorem dX7_see_57 : decode cX7_see 57 = .ok (.bipush (-4), 2) := by decide +kernel
theorem dX7_see_59 : decode cX7_see 59 = .ok (.ireturn, 1) := by decide +kernel
theorem dX7_see_60 : decode cX7_see 60 = .ok (.aload_n 0, 1) := by decide +kernel
theorem dX7_see_61 : decode cX7_see 61 = .ok (.getfield 44, 3) := by decide +kernel
theorem dX7_see_64 : decode cX7_see 64 = .ok (.aload_n 0, 1) := by decide +kernel
theorem dX7_see_65 : decode cX7_see 65 = .ok (.getfield 187, 3) := by decide +kernel
theorem dX7_see_68 : decode cX7_see 68 = .ok (.iload_n 1, 1) := by decide +kernel
theorem dX7_see_69 : decode cX7_see 69 = .ok (.iastore, 1) := by decide +kernel
theorem dX7_see_70 : decode cX7_see 70 = .ok (.aload_n 0, 1) := by decide +kernel
theorem dX7_see_71 : decode cX7_see 71 = .ok (.getfield 47, 3) := by decide +kernel
theorem dX7_see_74 : decode cX7_see 74 = .ok (.aload_n 0, 1) := by decide +kernel
theorem dX7_see_75 : decode cX7_see 75 = .ok (.getfield 187, 3) := by decide +kernel
theorem dX7_see_78 : decode cX7_see 78 = .ok (.iload_n 2, 1) := by decide +kernel
theorem dX7_see_79 : decode cX7_see 79 = .ok (.iastore, 1) := by decide +kernel
theorem dX7_see_80 : decode cX7_see 80 = .ok (.aload_n 0, 1) := by decide +kernel
theorem dX7_see_81 : decode cX7_see 81 = .ok (.getfield 50, 3) := by decide +kernel
theorem dX7_see_84 : decode cX7_see 84 = .ok (.aload_n 0, 1) := by decide +kernel
theorem dX7_see_85 : decode cX7_see 85 = .ok (.getfield 187, 3) := by decide +kernel
theorem dX7_see_88 : decode cX7_see 88 = .ok (.iload_n 3, 1) := by decide +kernel
theorem dX7_see_89 : decode cX7_see 89 = .ok (.iastore, 1) := by decide +kernel
theorem dX7_see_90 : decode cX7_see 90 = .ok (.aload_n 0, 1) := by decide +kernel
theorem dX7_see_91 : decode cX7_see 91 = .ok (.getfield 53, 3) := by decide +kernel
theorem dX7_see_94 : decode cX7_see 94 = .ok (.aload_n 0, 1) := by decide +kernel
theorem dX7_see_95 : decode cX7_see 95 = .ok (.getfield 187, 3) := by decide +kernel
theorem dX7_see_98 : decode cX7_see 98 = .ok (.iload 4, 2) := by decide +kernel
theorem dX7_see_100 : decode cX7_see 100 = .ok (.iastore, 1) := by decide +kernel
theorem dX7_see_101 : decode cX7_see 101 = .ok (.aload_n 0, 1) := by decide +kernel
theorem dX7_see_102 : decode cX7_see 102 = .ok (.dup, 1) := by decide +kernel
theorem dX7_see_103 : decode cX7_see 103 = .ok (.getfield 187, 3) := by decide +kernel
theorem dX7_see_106 : decode cX7_see 106 = .ok (.iconst 1, 1) := by decide +kernel
theorem dX7_see_107 : decode cX7_see 107 = .ok (.iadd, 1) := by decide +kernel
theorem dX7_see_108 : decode cX7_see 108 = .ok (.putfield 187, 3) := by decide +kernel
theorem dX7_see_111 : decode cX7_see 111 = .ok (.aload_n 0, 1) := by decide +kernel
theorem dX7_see_112 : decode cX7_see 112 = .ok (.getfield 187, 3) := by decide +kernel
theorem dX7_see_115 : decode cX7_see 115 = .ok (.ireturn, 1) := by decide +kernel
theorem dX7_unsee_0 : decode cX7_unsee 0 = .ok (.aload_n 0, 1) := by decide +kernel
theorem dX7_unsee_1 : decode cX7_unsee 1 = .ok (.getfield 187, 3) := by decide +kernel
theorem dX7_unsee_4 : decode cX7_unsee 4 = .ok (.istore_n 1, 1) := by decide +kernel
theorem dX7_unsee_5 : decode cX7_unsee 5 = .ok (.aload_n 0, 1) := by decide +kernel
theorem dX7_unsee_6 : decode cX7_unsee 6 = .ok (.iconst 0, 1) := by decide +kernel
theorem dX7_unsee_7 : decode cX7_unsee 7 = .ok (.putfield 187, 3) := by decide +kernel
theorem dX7_unsee_10 : decode cX7_unsee 10 = .ok (.iload_n 1, 1) := by decide +kernel
theorem dX7_unsee_11 : decode cX7_unsee 11 = .ok (.ireturn, 1) := by decide +kernel
theorem dX7_agrees_0 : decode cX7_agrees 0 = .ok (.iconst 1, 1) := by decide +kernel
theorem dX7_agrees_1 : decode cX7_agrees 1 = .ok (.istore_n 2, 1) := by decide +kernel
theorem dX7_agrees_2 : decode cX7_agrees 2 = .ok (.iconst 0, 1) := by decide +kernel
theorem dX7_agrees_3 : decode cX7_agrees 3 = .ok (.istore_n 3, 1) := by decide +kernel
theorem dX7_agrees_4 : decode cX7_agrees 4 = .ok (.iload_n 3, 1) := by decide +kernel
theorem dX7_agrees_5 : decode cX7_agrees 5 = .ok (.aload_n 0, 1) := by decide +kernel
theorem dX7_agrees_6 : decode cX7_agrees 6 = .ok (.getfield 187, 3) := by decide +kernel
theorem dX7_agrees_9 : decode cX7_agrees 9 = .ok (.if_icmp .ge 113, 3) := by decide +kernel
theorem dX7_agrees_12 : decode cX7_agrees 12 = .ok (.aload_n 0, 1) := by decide +kernel
theorem dX7_agrees_13 : decode cX7_agrees 13 = .ok (.getfield 44, 3) := by decide +kernel
theorem dX7_agrees_16 : decode cX7_agrees 16 = .ok (.iload_n 3, 1) := by decide +kernel
theorem dX7_agrees_17 : decode cX7_agrees 17 = .ok (.iaload, 1) := by decide +kernel
theorem dX7_agrees_18 : decode cX7_agrees 18 = .ok (.istore 4, 2) := by decide +kernel
theorem dX7_agrees_20 : decode cX7_agrees 20 = .ok (.aload_n 0, 1) := by decide +kernel
theorem dX7_agrees_21 : decode cX7_agrees 21 = .ok (.iload 4, 2) := by decide +kernel
theorem dX7_agrees_23 : decode cX7_agrees 23 = .ok (.invokevirtual 193, 3) := by decide +kernel
theorem dX7_agrees_26 : decode cX7_agrees 26 = .ok (.ifCond .eq 30, 3) := by decide +kernel
theorem dX7_agrees_29 : decode cX7_agrees 29 = .ok (.aload_n 0, 1) := by decide +kernel
theorem dX7_agrees_30 : decode cX7_agrees 30 = .ok (.getfield 13, 3) := by decide +kernel
theorem dX7_agrees_33 : decode cX7_agrees 33 = .ok (.iload_n 1, 1) := by decide +kernel
theorem dX7_agrees_34 : decode cX7_agrees 34 = .ok (.aload_n 0, 1) := by decide +kernel
theorem dX7_agrees_35 : decode cX7_agrees 35 = .ok (.getfield 32, 3) := by decide +kernel
theorem dX7_agrees_38 : decode cX7_agrees 38 = .ok (.iload 4, 2) := by decide +kernel
theorem dX7_agrees_40 : decode cX7_agrees 40 = .ok (.iaload, 1) := by decide +kernel
theorem dX7_agrees_41 : decode cX7_agrees 41 = .ok (.invokestatic 95, 3) := by decide +kernel
theorem dX7_agrees_44 : decode cX7_agrees 44 = .ok (.aload_n 0, 1) := by decide +kernel
theorem dX7_agrees_45 : decode cX7_agrees 45 = .ok (.getfield 101, 3) := by decide +kernel
theorem dX7_agrees_48 : decode cX7_agrees 48 = .ok (.bipush 15, 2) := by decide +kernel
theorem dX7_agrees_50 : decode cX7_agrees 50 = .ok (.invokestatic 105, 3) := by decide +kernel
theorem dX7_agrees_53 : decode cX7_agrees 53 = .ok (.goto 4, 3) := by decide +kernel
theorem dX7_agrees_56 : decode cX7_agrees 56 = .ok (.iconst 0, 1) := by decide +kernel
theorem dX7_agrees_57 : decode cX7_agrees 57 = .ok (.istore 5, 2) := by decide +kernel
theorem dX7_agrees_59 : decode cX7_agrees 59 = .ok (.iload 5, 2) := by decide +kernel
theorem dX7_agrees_61 : decode cX7_agrees 61 = .ok (.aload_n 0, 1) := by decide +kernel
theorem dX7_agrees_62 : decode cX7_agrees 62 = .ok (.getfield 47, 3) := by decide +kernel
theorem dX7_agrees_65 : decode cX7_agrees 65 = .ok (.iload_n 3, 1) := by decide +kernel
theorem dX7_agrees_66 : decode cX7_agrees 66 = .ok (.iaload, 1) := by decide +kernel
theorem dX7_agrees_67 : decode cX7_agrees 67 = .ok (.invokestatic 256, 3) := by decide +kernel
theorem dX7_agrees_70 : decode cX7_agrees 70 = .ok (.aload_n 0, 1) := by decide +kernel
theorem dX7_agrees_71 : decode cX7_agrees 71 = .ok (.getfield 50, 3) := by decide +kernel
theorem dX7_agrees_74 : decode cX7_agrees 74 = .ok (.iload_n 3, 1) := by decide +kernel
theorem dX7_agrees_75 : decode cX7_agrees 75 = .ok (.iaload, 1) := by decide +kernel
theorem dX7_agrees_76 : decode cX7_agrees 76 = .ok (.if_icmp .ne 7, 3) := by decide +kernel
theorem dX7_agrees_79 : decode cX7_agrees 79 = .ok (.iconst 1, 1) := by decide +kernel
theorem dX7_agrees_80 : decode cX7_agrees 80 = .ok (.goto 4, 3) := by decide +kernel
theorem dX7_agrees_83 : decode cX7_agrees 83 = .ok (.iconst 0, 1) := by decide +kernel
theorem dX7_agrees_84 : decode cX7_agrees 84 = .ok (.istore 6, 2) := by decide +kernel
theorem dX7_agrees_86 : decode cX7_agrees 86 = .ok (.iload_n 2, 1) := by decide +kernel
theorem dX7_agrees_87 : decode cX7_agrees 87 = .ok (.ifCond .eq 27, 3) := by decide +kernel
theorem dX7_agrees_90 : decode cX7_agrees 90 = .ok (.iload 6, 2) := by decide +kernel
theorem dX7_agrees_92 : decode cX7_agrees 92 = .ok (.aload_n 0, 1) := by decide +kernel
theorem dX7_agrees_93 : decode cX7_agrees 93 = .ok (.getfield 53, 3) := by decide +kernel
theorem dX7_agrees_96 : decode cX7_agrees 96 = .ok (.iload_n 3, 1) := by decide +kernel
theorem dX7_agrees_97 : decode cX7_agrees 97 = .ok (.iaload, 1) := by decide +kernel
theorem dX7_agrees_98 : decode cX7_agrees 98 = .ok (.iconst 1, 1) := by decide +kernel
theorem dX7_agrees_99 : decode cX7_agrees 99 = .ok (.if_icmp .ne 7, 3) := by decide +kernel
theorem dX7_agrees_102 : decode cX7_agrees 102 = .ok (.iconst 1, 1) := by decide +kernel
theorem dX7_agrees_103 : decode cX7_agrees 103 = .ok (.goto 4, 3) := by decide +kernel
theorem dX7_agrees_106 : decode cX7_agrees 106 = .ok (.iconst 0, 1) := by decide +kernel
theorem dX7_agrees_107 : decode cX7_agrees 107 = .ok (.if_icmp .ne 7, 3) := by decide +kernel
theorem dX7_agrees_110 : decode cX7_agrees 110 = .ok (.iconst 1, 1) := by decide +kernel
theorem dX7_agrees_111 : decode cX7_agrees 111 = .ok (.goto 4, 3) := by decide +kernel
theorem dX7_agrees_114 : decode cX7_agrees 114 = .ok (.iconst 0, 1) := by decide +kernel
theorem dX7_agrees_115 : decode cX7_agrees 115 = .ok (.istore_n 2, 1) := by decide +kernel
theorem dX7_agrees_116 : decode cX7_agrees 116 = .ok (.iinc 3 1, 3) := by decide +kernel
theorem dX7_agrees_119 : decode cX7_agrees 119 = .ok (.goto (-115), 3) := by decide +kernel
theorem dX7_agrees_122 : decode cX7_agrees 122 = .ok (.iload_n 2, 1) := by decide +kernel
theorem dX7_agrees_123 : decode cX7_agrees 123 = .ok (.ireturn, 1) := by decide +kernel
theorem dX7_which_0 : decode cX7_which 0 = .ok (.iload_n 1, 1) := by decide +kernel
theorem dX7_which_1 : decode cX7_which 1 = .ok (.i2l, 1) := by decide +kernel
theorem dX7_which_2 : decode cX7_which 2 = .ok (.lconst 0, 1) := by decide +kernel
theorem dX7_which_3 : decode cX7_which 3 = .ok (.lconst 1, 1) := by decide +kernel
theorem dX7_which_4 : decode cX7_which 4 = .ok (.invokestatic 78, 3) := by decide +kernel
theorem dX7_which_7 : decode cX7_which 7 = .ok (.ifCond .ne 6, 3) := by decide +kernel
theorem dX7_which_10 : decode cX7_which 10 = .ok (.bipush (-2), 2) := by decide +kernel
theorem dX7_which_12 : decode cX7_which 12 = .ok (.ireturn, 1) := by decide +kernel
theorem dX7_which_13 : decode cX7_which 13 = .ok (.iconst 0, 1) := by decide +kernel
theorem dX7_which_14 : decode cX7_which 14 = .ok (.istore_n 2, 1) := by decide +kernel
theorem dX7_which_15 : decode cX7_which 15 = .ok (.bipush (-9), 2) := by decide +kernel
theorem dX7_which_17 : decode cX7_which 17 = .ok (.istore_n 3, 1) := by decide +kernel
theorem dX7_which_18 : decode cX7_which 18 = .ok (.bipush 124, 2) := by decide +kernel
theorem dX7_which_20 : decode cX7_which 20 = .ok (.istore 4, 2) := by decide +kernel
theorem dX7_which_22 : decode cX7_which 22 = .ok (.iload 4, 2) := by decide +kernel
theorem dX7_which_24 : decode cX7_which 24 = .ok (.ifCond .lt 55, 3) := by decide +kernel
theorem dX7_which_27 : decode cX7_which 27 = .ok (.bipush 100, 2) := by decide +kernel
theorem dX7_which_29 : decode cX7_which 29 = .ok (.iload 4, 2) := by decide +kernel
theorem dX7_which_31 : decode cX7_which 31 = .ok (.bipush 25, 2) := by decide +kernel
theorem dX7_which_33 : decode cX7_which 33 = .ok (.idiv, 1) := by decide +kernel
theorem dX7_which_34 : decode cX7_which 34 = .ok (.iconst 1, 1) := by decide +kernel
theorem dX7_which_35 : decode cX7_which 35 = .ok (.iadd, 1) := by decide +kernel
theorem dX7_which_36 : decode cX7_which 36 = .ok (.imul, 1) := by decide +kernel
theorem dX7_which_37 : decode cX7_which 37 = .ok (.bipush 10, 2) := by decide +kernel
theorem dX7_which_39 : decode cX7_which 39 = .ok (.iload 4, 2) := by decide +kernel
theorem dX7_which_41 : decode cX7_which 41 = .ok (.iconst 5, 1) := by decide +kernel
theorem dX7_which_42 : decode cX7_which 42 = .ok (.idiv, 1) := by decide +kernel
theorem dX7_which_43 : decode cX7_which 43 = .ok (.iconst 5, 1) := by decide +kernel
theorem dX7_which_44 : decode cX7_which 44 = .ok (.irem, 1) := by decide +kernel
theorem dX7_which_45 : decode cX7_which 45 = .ok (.iconst 1, 1) := by decide +kernel
theorem dX7_which_46 : decode cX7_which 46 = .ok (.iadd, 1) := by decide +kernel
theorem dX7_which_47 : decode cX7_which 47 = .ok (.imul, 1) := by decide +kernel
theorem dX7_which_48 : decode cX7_which 48 = .ok (.iadd, 1) := by decide +kernel
theorem dX7_which_49 : decode cX7_which 49 = .ok (.iload 4, 2) := by decide +kernel
theorem dX7_which_51 : decode cX7_which 51 = .ok (.iconst 5, 1) := by decide +kernel
theorem dX7_which_52 : decode cX7_which 52 = .ok (.irem, 1) := by decide +kernel
theorem dX7_which_53 : decode cX7_which 53 = .ok (.iadd, 1) := by decide +kernel
theorem dX7_which_54 : decode cX7_which 54 = .ok (.iconst 1, 1) := by decide +kernel
theorem dX7_which_55 : decode cX7_which 55 = .ok (.iadd, 1) := by decide +kernel
theorem dX7_which_56 : decode cX7_which 56 = .ok (.istore 5, 2) := by decide +kernel
theorem dX7_which_58 : decode cX7_which 58 = .ok (.aload_n 0, 1) := by decide +kernel
theorem dX7_which_59 : decode cX7_which 59 = .ok (.iload 5, 2) := by decide +kernel
theorem dX7_which_61 : decode cX7_which 61 = .ok (.invokevirtual 259, 3) := by decide +kernel
theorem dX7_which_64 : decode cX7_which 64 = .ok (.ifCond .eq 9, 3) := by decide +kernel
theorem dX7_which_67 : decode cX7_which 67 = .ok (.iinc 2 1, 3) := by decide +kernel
theorem dX7_which_70 : decode cX7_which 70 = .ok (.iload 5, 2) := by decide +kernel
theorem dX7_which_72 : decode cX7_which 72 = .ok (.istore_n 3, 1) := by decide +kernel
theorem dX7_which_73 : decode cX7_which 73 = .ok (.iinc 4 (-1), 3) := by decide +kernel
theorem dX7_which_76 : decode cX7_which 76 = .ok (.goto (-54), 3) := by decide +kernel
theorem dX7_which_79 : decode cX7_which 79 = .ok (.iload_n 1, 1) := by decide +kernel
theorem dX7_which_80 : decode cX7_which 80 = .ok (.ifCond .ne 7, 3) := by decide +kernel
theorem dX7_which_83 : decode cX7_which 83 = .ok (.iload_n 2, 1) := by decide +kernel
theorem dX7_which_84 : decode cX7_which 84 = .ok (.goto 4, 3) := by decide +kernel
theorem dX7_which_87 : decode cX7_which 87 = .ok (.iload_n 3, 1) := by decide +kernel
theorem dX7_which_88 : decode cX7_which 88 = .ok (.ireturn, 1) := by decide +kernel
theorem dX7_fails_0 : decode cX7_fails 0 = .ok (.aload_n 0, 1) := by decide +kernel
theorem dX7_fails_1 : decode cX7_fails 1 = .ok (.iload_n 1, 1) := by decide +kernel
theorem dX7_fails_2 : decode cX7_fails 2 = .ok (.invokevirtual 190, 3) := by decide +kernel
theorem dX7_fails_5 : decode cX7_fails 5 = .ok (.ifCond .eq 11, 3) := by decide +kernel
theorem dX7_fails_8 : decode cX7_fails 8 = .ok (.aload_n 0, 1) := by decide +kernel
theorem dX7_fails_9 : decode cX7_fails 9 = .ok (.iload_n 2, 1) := by decide +kernel
theorem dX7_fails_10 : decode cX7_fails 10 = .ok (.invokevirtual 193, 3) := by decide +kernel
theorem dX7_fails_13 : decode cX7_fails 13 = .ok (.ifCond .ne 5, 3) := by decide +kernel
theorem dX7_fails_16 : decode cX7_fails 16 = .ok (.iconst (-1), 1) := by decide +kernel
theorem dX7_fails_17 : decode cX7_fails 17 = .ok (.ireturn, 1) := by decide +kernel
theorem dX7_fails_18 : decode cX7_fails 18 = .ok (.iload_n 3, 1) := by decide +kernel
theorem dX7_fails_19 : decode cX7_fails 19 = .ok (.i2l, 1) := by decide +kernel
theorem dX7_fails_20 : decode cX7_fails 20 = .ok (.lconst 0, 1) := by decide +kernel
theorem dX7_fails_21 : decode cX7_fails 21 = .ok (.ldc2_w 262, 3) := by decide +kernel
theorem dX7_fails_24 : decode cX7_fails 24 = .ok (.invokestatic 78, 3) := by decide +kernel
theorem dX7_fails_27 : decode cX7_fails 27 = .ok (.ifCond .ne 6, 3) := by decide +kernel
theorem dX7_fails_30 : decode cX7_fails 30 = .ok (.bipush (-2), 2) := by decide +kernel
theorem dX7_fails_32 : decode cX7_fails 32 = .ok (.ireturn, 1) := by decide +kernel
theorem dX7_fails_33 : decode cX7_fails 33 = .ok (.aload_n 0, 1) := by decide +kernel
theorem dX7_fails_34 : decode cX7_fails 34 = .ok (.aload_n 0, 1) := by decide +kernel
theorem dX7_fails_35 : decode cX7_fails 35 = .ok (.getfield 13, 3) := by decide +kernel
theorem dX7_fails_38 : decode cX7_fails 38 = .ok (.iload_n 1, 1) := by decide +kernel
theorem dX7_fails_39 : decode cX7_fails 39 = .ok (.iload_n 2, 1) := by decide +kernel
theorem dX7_fails_40 : decode cX7_fails 40 = .ok (.bipush 15, 2) := by decide +kernel
theorem dX7_fails_42 : decode cX7_fails 42 = .ok (.invokevirtual 170, 3) := by decide +kernel
theorem dX7_fails_45 : decode cX7_fails 45 = .ok (.istore 5, 2) := by decide +kernel
theorem dX7_fails_47 : decode cX7_fails 47 = .ok (.iconst 0, 1) := by decide +kernel
theorem dX7_fails_48 : decode cX7_fails 48 = .ok (.istore 6, 2) := by decide +kernel
theorem dX7_fails_50 : decode cX7_fails 50 = .ok (.iconst 0, 1) := by decide +kernel
theorem dX7_fails_51 : decode cX7_fails 51 = .ok (.istore 7, 2) := by decide +kernel
theorem dX7_fails_53 : decode cX7_fails 53 = .ok (.iload 7, 2) := by decide +kernel
theorem dX7_fails_55 : decode cX7_fails 55 = .ok (.iconst 1, 1) := by decide +kernel
theorem dX7_fails_56 : decode cX7_fails 56 = .ok (.aload_n 0, 1) := by decide +kernel
theorem dX7_fails_57 : decode cX7_fails 57 = .ok (.getfield 101, 3) := by decide +kernel
theorem dX7_fails_60 : decode cX7_fails 60 = .ok (.ishl, 1) := by decide +kernel
theorem dX7_fails_61 : decode cX7_fails 61 = .ok (.if_icmp .ge 75, 3) := by decide +kernel
theorem dX7_fails_64 : decode cX7_fails 64 = .ok (.iload 7, 2) := by decide +kernel
theorem dX7_fails_66 : decode cX7_fails 66 = .ok (.invokestatic 264, 3) := by decide +kernel
theorem dX7_fails_69 : decode cX7_fails 69 = .ok (.istore 8, 2) := by decide +kernel
theorem dX7_fails_71 : decode cX7_fails 71 = .ok (.aload_n 0, 1) := by decide +kernel
theorem dX7_fails_72 : decode cX7_fails 72 = .ok (.aload_n 0, 1) := by decide +kernel
theorem dX7_fails_73 : decode cX7_fails 73 = .ok (.getfield 13, 3) := by decide +kernel
theorem dX7_fails_76 : decode cX7_fails 76 = .ok (.iload_n 1, 1) := by decide +kernel
theorem dX7_fails_77 : decode cX7_fails 77 = .ok (.iload_n 2, 1) := by decide +kernel
theorem dX7_fails_78 : decode cX7_fails 78 = .ok (.iload 7, 2) := by decide +kernel
theorem dX7_fails_80 : decode cX7_fails 80 = .ok (.invokevirtual 170, 3) := by decide +kernel
theorem dX7_fails_83 : decode cX7_fails 83 = .ok (.iload 5, 2) := by decide +kernel
theorem dX7_fails_85 : decode cX7_fails 85 = .ok (.if_icmp .ne 7, 3) := by decide +kernel
theorem dX7_fails_88 : decode cX7_fails 88 = .ok (.iconst 1, 1) := by decide +kernel
theorem dX7_fails_89 : decode cX7_fails 89 = .ok (.goto 4, 3) := by decide +kernel
theorem dX7_fails_92 : decode cX7_fails 92 = .ok (.iconst 0, 1) := by decide +kernel
theorem dX7_fails_93 : decode cX7_fails 93 = .ok (.istore 9, 2) := by decide +kernel
theorem dX7_fails_95 : decode cX7_fails 95 = .ok (.iload 6, 2) := by decide +kernel
theorem dX7_fails_97 : decode cX7_fails 97 = .ok (.iload 9, 2) := by decide +kernel
theorem dX7_fails_99 : decode cX7_fails 99 = .ok (.ifCond .eq 27, 3) := by decide +kernel
theorem dX7_fails_102 : decode cX7_fails 102 = .ok (.bipush 10, 2) := by decide +kernel
theorem dX7_fails_104 : decode cX7_fails 104 = .ok (.iload_n 3, 1) := by decide +kernel
theorem dX7_fails_105 : decode cX7_fails 105 = .ok (.isub, 1) := by decide +kernel
theorem dX7_fails_106 : decode cX7_fails 106 = .ok (.iload 8, 2) := by decide +kernel
theorem dX7_fails_108 : decode cX7_fails 108 = .ok (.invokestatic 73, 3) := by decide +kernel
theorem dX7_fails_111 : decode cX7_fails 111 = .ok (.iload_n 3, 1) := by decide +kernel
theorem dX7_fails_112 : decode cX7_fails 112 = .ok (.aload_n 0, 1) := by decide +kernel
theorem dX7_fails_113 : decode cX7_fails 113 = .ok (.getfield 101, 3) := by decide +kernel
theorem dX7_fails_116 : decode cX7_fails 116 = .ok (.iload 8, 2) := by decide +kernel
theorem dX7_fails_118 : decode cX7_fails 118 = .ok (.isub, 1) := by decide +kernel
theorem dX7_fails_119 : decode cX7_fails 119 = .ok (.invokestatic 73, 3) := by decide +kernel
theorem dX7_fails_122 : decode cX7_fails 122 = .ok (.imul, 1) := by decide +kernel
theorem dX7_fails_123 : decode cX7_fails 123 = .ok (.goto 4, 3) := by decide +kernel
theorem dX7_fails_126 : decode cX7_fails 126 = .ok (.iconst 0, 1) := by decide +kernel
theorem dX7_fails_127 : decode cX7_fails 127 = .ok (.iadd, 1) := by decide +kernel
theorem dX7_fails_128 : decode cX7_fails 128 = .ok (.istore 6, 2) := by decide +kernel
theorem dX7_fails_130 : decode cX7_fails 130 = .ok (.iinc 7 1, 3) := by decide +kernel
theorem dX7_fails_133 : decode cX7_fails 133 = .ok (.goto (-80), 3) := by decide +kernel
theorem dX7_fails_136 : decode cX7_fails 136 = .ok (.iload 6, 2) := by decide +kernel
theorem dX7_fails_138 : decode cX7_fails 138 = .ok (.bipush 10, 2) := by decide +kernel
theorem dX7_fails_140 : decode cX7_fails 140 = .ok (.aload_n 0, 1) := by decide +kernel
theorem dX7_fails_141 : decode cX7_fails 141 = .ok (.getfield 101, 3) := by decide +kernel
theorem dX7_fails_144 : decode cX7_fails 144 = .ok (.invokestatic 73, 3) := by decide +kernel
theorem dX7_fails_147 : decode cX7_fails 147 = .ok (.iload 4, 2) := by decide +kernel
theorem dX7_fails_149 : decode cX7_fails 149 = .ok (.invokestatic 252, 3) := by decide +kernel
theorem dX7_fails_152 : decode cX7_fails 152 = .ok (.ireturn, 1) := by decide +kernel
theorem dX7_seed_0 : decode cX7_seed 0 = .ok (.aload_n 0, 1) := by decide +kernel
theorem dX7_seed_1 : decode cX7_seed 1 = .ok (.getfield 267, 3) := by decide +kernel
theorem dX7_seed_4 : decode cX7_seed 4 = .ok (.lstore_n 3, 1) := by decide +kernel
theorem dX7_seed_5 : decode cX7_seed 5 = .ok (.aload_n 0, 1) := by decide +kernel
theorem dX7_seed_6 : decode cX7_seed 6 = .ok (.lload_n 1, 1) := by decide +kernel
theorem dX7_seed_7 : decode cX7_seed 7 = .ok (.putfield 267, 3) := by decide +kernel
theorem dX7_seed_10 : decode cX7_seed 10 = .ok (.lload_n 3, 1) := by decide +kernel
theorem dX7_seed_11 : decode cX7_seed 11 = .ok (.lreturn, 1) := by decide +kernel
theorem dX7_drawn_0 : decode cX7_drawn 0 = .ok (.iload_n 1, 1) := by decide +kernel
theorem dX7_drawn_1 : decode cX7_drawn 1 = .ok (.i2l, 1) := by decide +kernel
theorem dX7_drawn_2 : decode cX7_drawn 2 = .ok (.lconst 1, 1) := by decide +kernel
theorem dX7_drawn_3 : decode cX7_drawn 3 = .ok (.ldc2_w 271, 3) := by decide +kernel
theorem dX7_drawn_6 : decode cX7_drawn 6 = .ok (.invokestatic 78, 3) := by decide +kernel
theorem dX7_drawn_9 : decode cX7_drawn 9 = .ok (.ifCond .ne 6, 3) := by decide +kernel
theorem dX7_drawn_12 : decode cX7_drawn 12 = .ok (.bipush (-2), 2) := by decide +kernel
theorem dX7_drawn_14 : decode cX7_drawn 14 = .ok (.ireturn, 1) := by decide +kernel
theorem dX7_drawn_15 : decode cX7_drawn 15 = .ok (.iconst 0, 1) := by decide +kernel
theorem dX7_drawn_16 : decode cX7_drawn 16 = .ok (.istore_n 2, 1) := by decide +kernel
theorem dX7_drawn_17 : decode cX7_drawn 17 = .ok (.iconst 0, 1) := by decide +kernel
theorem dX7_drawn_18 : decode cX7_drawn 18 = .ok (.istore_n 3, 1) := by decide +kernel
theorem dX7_drawn_19 : decode cX7_drawn 19 = .ok (.iload_n 3, 1) := by decide +kernel
theorem dX7_drawn_20 : decode cX7_drawn 20 = .ok (.iload_n 1, 1) := by decide +kernel
theorem dX7_drawn_21 : decode cX7_drawn 21 = .ok (.if_icmp .ge 95, 3) := by decide +kernel
theorem dX7_drawn_24 : decode cX7_drawn 24 = .ok (.aload_n 0, 1) := by decide +kernel
theorem dX7_drawn_25 : decode cX7_drawn 25 = .ok (.aload_n 0, 1) := by decide +kernel
theorem dX7_drawn_26 : decode cX7_drawn 26 = .ok (.getfield 267, 3) := by decide +kernel
theorem dX7_drawn_29 : decode cX7_drawn 29 = .ok (.ldc2_w 273, 3) := by decide +kernel
theorem dX7_drawn_32 : decode cX7_drawn 32 = .ok (.lmul, 1) := by decide +kernel
theorem dX7_drawn_33 : decode cX7_drawn 33 = .ok (.ldc2_w 275, 3) := by decide +kernel
theorem dX7_drawn_36 : decode cX7_drawn 36 = .ok (.ladd, 1) := by decide +kernel
theorem dX7_drawn_37 : decode cX7_drawn 37 = .ok (.putfield 267, 3) := by decide +kernel
theorem dX7_drawn_40 : decode cX7_drawn 40 = .ok (.aload_n 0, 1) := by decide +kernel
theorem dX7_drawn_41 : decode cX7_drawn 41 = .ok (.getfield 267, 3) := by decide +kernel
theorem dX7_drawn_44 : decode cX7_drawn 44 = .ok (.bipush 33, 2) := by decide +kernel
theorem dX7_drawn_46 : decode cX7_drawn 46 = .ok (.lushr, 1) := by decide +kernel
theorem dX7_drawn_47 : decode cX7_drawn 47 = .ok (.lstore 4, 2) := by decide +kernel
theorem dX7_drawn_49 : decode cX7_drawn 49 = .ok (.iconst 0, 1) := by decide +kernel
theorem dX7_drawn_50 : decode cX7_drawn 50 = .ok (.istore 6, 2) := by decide +kernel
theorem dX7_drawn_52 : decode cX7_drawn 52 = .ok (.iconst 0, 1) := by decide +kernel
theorem dX7_drawn_53 : decode cX7_drawn 53 = .ok (.istore 7, 2) := by decide +kernel
theorem dX7_drawn_55 : decode cX7_drawn 55 = .ok (.iload 7, 2) := by decide +kernel
theorem dX7_drawn_57 : decode cX7_drawn 57 = .ok (.iconst 4, 1) := by decide +kernel
theorem dX7_drawn_58 : decode cX7_drawn 58 = .ok (.if_icmp .ge 31, 3) := by decide +kernel
theorem dX7_drawn_61 : decode cX7_drawn 61 = .ok (.bipush 10, 2) := by decide +kernel
theorem dX7_drawn_63 : decode cX7_drawn 63 = .ok (.iload 6, 2) := by decide +kernel
theorem dX7_drawn_65 : decode cX7_drawn 65 = .ok (.imul, 1) := by decide +kernel
theorem dX7_drawn_66 : decode cX7_drawn 66 = .ok (.lload 4, 2) := by decide +kernel
theorem dX7_drawn_68 : decode cX7_drawn 68 = .ok (.iconst 3, 1) := by decide +kernel
theorem dX7_drawn_69 : decode cX7_drawn 69 = .ok (.iload 7, 2) := by decide +kernel
theorem dX7_drawn_71 : decode cX7_drawn 71 = .ok (.imul, 1) := by decide +kernel
theorem dX7_drawn_72 : decode cX7_drawn 72 = .ok (.lshr, 1) := by decide +kernel
theorem dX7_drawn_73 : decode cX7_drawn 73 = .ok (.ldc2_w 82, 3) := by decide +kernel
theorem dX7_drawn_76 : decode cX7_drawn 76 = .ok (.lrem, 1) := by decide +kernel
theorem dX7_drawn_77 : decode cX7_drawn 77 = .ok (.l2i, 1) := by decide +kernel
theorem dX7_drawn_78 : decode cX7_drawn 78 = .ok (.iadd, 1) := by decide +kernel
theorem dX7_drawn_79 : decode cX7_drawn 79 = .ok (.iconst 1, 1) := by decide +kernel
theorem dX7_drawn_80 : decode cX7_drawn 80 = .ok (.iadd, 1) := by decide +kernel
theorem dX7_drawn_81 : decode cX7_drawn 81 = .ok (.istore 6, 2) := by decide +kernel
theorem dX7_drawn_83 : decode cX7_drawn 83 = .ok (.iinc 7 1, 3) := by decide +kernel
theorem dX7_drawn_86 : decode cX7_drawn 86 = .ok (.goto (-31), 3) := by decide +kernel
theorem dX7_drawn_89 : decode cX7_drawn 89 = .ok (.iload_n 2, 1) := by decide +kernel
theorem dX7_drawn_90 : decode cX7_drawn 90 = .ok (.aload_n 0, 1) := by decide +kernel
theorem dX7_drawn_91 : decode cX7_drawn 91 = .ok (.getfield 13, 3) := by decide +kernel
theorem dX7_drawn_94 : decode cX7_drawn 94 = .ok (.iload 6, 2) := by decide +kernel
theorem dX7_drawn_96 : decode cX7_drawn 96 = .ok (.aload_n 0, 1) := by decide +kernel
theorem dX7_drawn_97 : decode cX7_drawn 97 = .ok (.getfield 101, 3) := by decide +kernel
theorem dX7_drawn_100 : decode cX7_drawn 100 = .ok (.bipush 15, 2) := by decide +kernel
theorem dX7_drawn_102 : decode cX7_drawn 102 = .ok (.invokestatic 105, 3) := by decide +kernel
theorem dX7_drawn_105 : decode cX7_drawn 105 = .ok (.invokestatic 69, 3) := by decide +kernel
theorem dX7_drawn_108 : decode cX7_drawn 108 = .ok (.iadd, 1) := by decide +kernel
theorem dX7_drawn_109 : decode cX7_drawn 109 = .ok (.istore_n 2, 1) := by decide +kernel
theorem dX7_drawn_110 : decode cX7_drawn 110 = .ok (.iinc 3 1, 3) := by decide +kernel
theorem dX7_drawn_113 : decode cX7_drawn 113 = .ok (.goto (-94), 3) := by decide +kernel
theorem dX7_drawn_116 : decode cX7_drawn 116 = .ok (.iload_n 2, 1) := by decide +kernel
theorem dX7_drawn_117 : decode cX7_drawn 117 = .ok (.ireturn, 1) := by decide +kernel
theorem dX7_keep_0 : decode cX7_keep 0 = .ok (.iload_n 1, 1) := by decide +kernel
theorem dX7_keep_1 : decode cX7_keep 1 = .ok (.i2l, 1) := by decide +kernel
theorem dX7_keep_2 : decode cX7_keep 2 = .ok (.lconst 0, 1) := by decide +kernel
theorem dX7_keep_3 : decode cX7_keep 3 = .ok (.lconst 1, 1) := by decide +kernel
theorem dX7_keep_4 : decode cX7_keep 4 = .ok (.invokestatic 78, 3) := by decide +kernel
theorem dX7_keep_7 : decode cX7_keep 7 = .ok (.ifCond .ne 5, 3) := by decide +kernel
theorem dX7_keep_10 : decode cX7_keep 10 = .ok (.iconst (-1), 1) := by decide +kernel
theorem dX7_keep_11 : decode cX7_keep 11 = .ok (.ireturn, 1) := by decide +kernel
theorem dX7_keep_12 : decode cX7_keep 12 = .ok (.aload_n 0, 1) := by decide +kernel
theorem dX7_keep_13 : decode cX7_keep 13 = .ok (.getfield 25, 3) := by decide +kernel
theorem dX7_keep_16 : decode cX7_keep 16 = .ok (.iload_n 1, 1) := by decide +kernel
theorem dX7_keep_17 : decode cX7_keep 17 = .ok (.iconst 1, 1) := by decide +kernel
theorem dX7_keep_18 : decode cX7_keep 18 = .ok (.bastore, 1) := by decide +kernel
theorem dX7_keep_19 : decode cX7_keep 19 = .ok (.iconst 0, 1) := by decide +kernel
theorem dX7_keep_20 : decode cX7_keep 20 = .ok (.istore_n 2, 1) := by decide +kernel
theorem dX7_keep_21 : decode cX7_keep 21 = .ok (.iload_n 2, 1) := by decide +kernel
theorem dX7_keep_22 : decode cX7_keep 22 = .ok (.bipush 32, 2) := by decide +kernel
theorem dX7_keep_24 : decode cX7_keep 24 = .ok (.if_icmp .ge 26, 3) := by decide +kernel
theorem dX7_keep_27 : decode cX7_keep 27 = .ok (.aload_n 0, 1) := by decide +kernel
theorem dX7_keep_28 : decode cX7_keep 28 = .ok (.getfield 22, 3) := by decide +kernel
theorem dX7_keep_31 : decode cX7_keep 31 = .ok (.bipush 32, 2) := by decide +kernel
theorem dX7_keep_33 : decode cX7_keep 33 = .ok (.iload_n 1, 1) := by decide +kernel
theorem dX7_keep_34 : decode cX7_keep 34 = .ok (.imul, 1) := by decide +kernel
theorem dX7_keep_35 : decode cX7_keep 35 = .ok (.iload_n 2, 1) := by decide +kernel
theorem dX7_keep_36 : decode cX7_keep 36 = .ok (.iadd, 1) := by decide +kernel
theorem dX7_keep_37 : decode cX7_keep 37 = .ok (.aload_n 0, 1) := by decide +kernel
theorem dX7_keep_38 : decode cX7_keep 38 = .ok (.getfield 13, 3) := by decide +kernel
theorem dX7_keep_41 : decode cX7_keep 41 = .ok (.iload_n 2, 1) := by decide +kernel
theorem dX7_keep_42 : decode cX7_keep 42 = .ok (.iaload, 1) := by decide +kernel
theorem dX7_keep_43 : decode cX7_keep 43 = .ok (.iastore, 1) := by decide +kernel
theorem dX7_keep_44 : decode cX7_keep 44 = .ok (.iinc 2 1, 3) := by decide +kernel
theorem dX7_keep_47 : decode cX7_keep 47 = .ok (.goto (-26), 3) := by decide +kernel
theorem dX7_keep_50 : decode cX7_keep 50 = .ok (.aload_n 0, 1) := by decide +kernel
theorem dX7_keep_51 : decode cX7_keep 51 = .ok (.invokevirtual 184, 3) := by decide +kernel
theorem dX7_keep_54 : decode cX7_keep 54 = .ok (.ireturn, 1) := by decide +kernel
theorem dX7_again_0 : decode cX7_again 0 = .ok (.iload_n 1, 1) := by decide +kernel
theorem dX7_again_1 : decode cX7_again 1 = .ok (.i2l, 1) := by decide +kernel
theorem dX7_again_2 : decode cX7_again 2 = .ok (.lconst 0, 1) := by decide +kernel
theorem dX7_again_3 : decode cX7_again 3 = .ok (.lconst 1, 1) := by decide +kernel
theorem dX7_again_4 : decode cX7_again 4 = .ok (.invokestatic 78, 3) := by decide +kernel
theorem dX7_again_7 : decode cX7_again 7 = .ok (.ifCond .ne 5, 3) := by decide +kernel
theorem dX7_again_10 : decode cX7_again 10 = .ok (.iconst (-1), 1) := by decide +kernel
theorem dX7_again_11 : decode cX7_again 11 = .ok (.ireturn, 1) := by decide +kernel
theorem dX7_again_12 : decode cX7_again 12 = .ok (.aload_n 0, 1) := by decide +kernel
theorem dX7_again_13 : decode cX7_again 13 = .ok (.getfield 25, 3) := by decide +kernel
theorem dX7_again_16 : decode cX7_again 16 = .ok (.iload_n 1, 1) := by decide +kernel
theorem dX7_again_17 : decode cX7_again 17 = .ok (.baload, 1) := by decide +kernel
theorem dX7_again_18 : decode cX7_again 18 = .ok (.ifCond .ne 6, 3) := by decide +kernel
theorem dX7_again_21 : decode cX7_again 21 = .ok (.bipush (-3), 2) := by decide +kernel
theorem dX7_again_23 : decode cX7_again 23 = .ok (.ireturn, 1) := by decide +kernel
theorem dX7_again_24 : decode cX7_again 24 = .ok (.iconst 0, 1) := by decide +kernel
theorem dX7_again_25 : decode cX7_again 25 = .ok (.istore_n 2, 1) := by decide +kernel
theorem dX7_again_26 : decode cX7_again 26 = .ok (.iload_n 2, 1) := by decide +kernel
theorem dX7_again_27 : decode cX7_again 27 = .ok (.bipush 32, 2) := by decide +kernel
theorem dX7_again_29 : decode cX7_again 29 = .ok (.if_icmp .ge 26, 3) := by decide +kernel
theorem dX7_again_32 : decode cX7_again 32 = .ok (.aload_n 0, 1) := by decide +kernel
theorem dX7_again_33 : decode cX7_again 33 = .ok (.getfield 13, 3) := by decide +kernel
theorem dX7_again_36 : decode cX7_again 36 = .ok (.iload_n 2, 1) := by decide +kernel
theorem dX7_again_37 : decode cX7_again 37 = .ok (.aload_n 0, 1) := by decide +kernel
theorem dX7_again_38 : decode cX7_again 38 = .ok (.getfield 22, 3) := by decide +kernel
theorem dX7_again_41 : decode cX7_again 41 = .ok (.bipush 32, 2) := by decide +kernel
theorem dX7_again_43 : decode cX7_again 43 = .ok (.iload_n 1, 1) := by decide +kernel
theorem dX7_again_44 : decode cX7_again 44 = .ok (.imul, 1) := by decide +kernel
theorem dX7_again_45 : decode cX7_again 45 = .ok (.iload_n 2, 1) := by decide +kernel
theorem dX7_again_46 : decode cX7_again 46 = .ok (.iadd, 1) := by decide +kernel
theorem dX7_again_47 : decode cX7_again 47 = .ok (.iaload, 1) := by decide +kernel
theorem dX7_again_48 : decode cX7_again 48 = .ok (.iastore, 1) := by decide +kernel
theorem dX7_again_49 : decode cX7_again 49 = .ok (.iinc 2 1, 3) := by decide +kernel
theorem dX7_again_52 : decode cX7_again 52 = .ok (.goto (-26), 3) := by decide +kernel
theorem dX7_again_55 : decode cX7_again 55 = .ok (.aload_n 0, 1) := by decide +kernel
theorem dX7_again_56 : decode cX7_again 56 = .ok (.iconst 0, 1) := by decide +kernel
theorem dX7_again_57 : decode cX7_again 57 = .ok (.putfield 167, 3) := by decide +kernel
theorem dX7_again_60 : decode cX7_again 60 = .ok (.aload_n 0, 1) := by decide +kernel
theorem dX7_again_61 : decode cX7_again 61 = .ok (.invokevirtual 184, 3) := by decide +kernel
theorem dX7_again_64 : decode cX7_again 64 = .ok (.ireturn, 1) := by decide +kernel
theorem dJ6_bitCount_0f7a4_0 : decode cJ6_bitCount_0f7a4 0 = .ok (.iload_n 0, 1) := by decide +kernel
theorem dJ6_bitCount_0f7a4_1 : decode cJ6_bitCount_0f7a4 1 = .ok (.iload_n 0, 1) := by decide +kernel
theorem dJ6_bitCount_0f7a4_2 : decode cJ6_bitCount_0f7a4 2 = .ok (.iconst 1, 1) := by decide +kernel
theorem dJ6_bitCount_0f7a4_3 : decode cJ6_bitCount_0f7a4 3 = .ok (.iushr, 1) := by decide +kernel
theorem dJ6_bitCount_0f7a4_4 : decode cJ6_bitCount_0f7a4 4 = .ok (.ldc_w 265, 3) := by decide +kernel
theorem dJ6_bitCount_0f7a4_7 : decode cJ6_bitCount_0f7a4 7 = .ok (.iand, 1) := by decide +kernel
theorem dJ6_bitCount_0f7a4_8 : decode cJ6_bitCount_0f7a4 8 = .ok (.isub, 1) := by decide +kernel
theorem dJ6_bitCount_0f7a4_9 : decode cJ6_bitCount_0f7a4 9 = .ok (.istore_n 0, 1) := by decide +kernel
theorem dJ6_bitCount_0f7a4_10 : decode cJ6_bitCount_0f7a4 10 = .ok (.iload_n 0, 1) := by decide +kernel
theorem dJ6_bitCount_0f7a4_11 : decode cJ6_bitCount_0f7a4 11 = .ok (.ldc_w 266, 3) := by decide +kernel
theorem dJ6_bitCount_0f7a4_14 : decode cJ6_bitCount_0f7a4 14 = .ok (.iand, 1) := by decide +kernel
theorem dJ6_bitCount_0f7a4_15 : decode cJ6_bitCount_0f7a4 15 = .ok (.iload_n 0, 1) := by decide +kernel
theorem dJ6_bitCount_0f7a4_16 : decode cJ6_bitCount_0f7a4 16 = .ok (.iconst 2, 1) := by decide +kernel
theorem dJ6_bitCount_0f7a4_17 : decode cJ6_bitCount_0f7a4 17 = .ok (.iushr, 1) := by decide +kernel
theorem dJ6_bitCount_0f7a4_18 : decode cJ6_bitCount_0f7a4 18 = .ok (.ldc_w 266, 3) := by decide +kernel
theorem dJ6_bitCount_0f7a4_21 : decode cJ6_bitCount_0f7a4 21 = .ok (.iand, 1) := by decide +kernel
theorem dJ6_bitCount_0f7a4_22 : decode cJ6_bitCount_0f7a4 22 = .ok (.iadd, 1) := by decide +kernel
theorem dJ6_bitCount_0f7a4_23 : decode cJ6_bitCount_0f7a4 23 = .ok (.istore_n 0, 1) := by decide +kernel
theorem dJ6_bitCount_0f7a4_24 : decode cJ6_bitCount_0f7a4 24 = .ok (.iload_n 0, 1) := by decide +kernel
theorem dJ6_bitCount_0f7a4_25 : decode cJ6_bitCount_0f7a4 25 = .ok (.iload_n 0, 1) := by decide +kernel
theorem dJ6_bitCount_0f7a4_26 : decode cJ6_bitCount_0f7a4 26 = .ok (.iconst 4, 1) := by decide +kernel
theorem dJ6_bitCount_0f7a4_27 : decode cJ6_bitCount_0f7a4 27 = .ok (.iushr, 1) := by decide +kernel
theorem dJ6_bitCount_0f7a4_28 : decode cJ6_bitCount_0f7a4 28 = .ok (.iadd, 1) := by decide +kernel
theorem dJ6_bitCount_0f7a4_29 : decode cJ6_bitCount_0f7a4 29 = .ok (.ldc_w 267, 3) := by decide +kernel
theorem dJ6_bitCount_0f7a4_32 : decode cJ6_bitCount_0f7a4 32 = .ok (.iand, 1) := by decide +kernel
theorem dJ6_bitCount_0f7a4_33 : decode cJ6_bitCount_0f7a4 33 = .ok (.istore_n 0, 1) := by decide +kernel
theorem dJ6_bitCount_0f7a4_34 : decode cJ6_bitCount_0f7a4 34 = .ok (.iload_n 0, 1) := by decide +kernel
theorem dJ6_bitCount_0f7a4_35 : decode cJ6_bitCount_0f7a4 35 = .ok (.iload_n 0, 1) := by decide +kernel
theorem dJ6_bitCount_0f7a4_36 : decode cJ6_bitCount_0f7a4 36 = .ok (.bipush 8, 2) := by decide +kernel
theorem dJ6_bitCount_0f7a4_38 : decode cJ6_bitCount_0f7a4 38 = .ok (.iushr, 1) := by decide +kernel
theorem dJ6_bitCount_0f7a4_39 : decode cJ6_bitCount_0f7a4 39 = .ok (.iadd, 1) := by decide +kernel
theorem dJ6_bitCount_0f7a4_40 : decode cJ6_bitCount_0f7a4 40 = .ok (.istore_n 0, 1) := by decide +kernel
theorem dJ6_bitCount_0f7a4_41 : decode cJ6_bitCount_0f7a4 41 = .ok (.iload_n 0, 1) := by decide +kernel
theorem dJ6_bitCount_0f7a4_42 : decode cJ6_bitCount_0f7a4 42 = .ok (.iload_n 0, 1) := by decide +kernel
theorem dJ6_bitCount_0f7a4_43 : decode cJ6_bitCount_0f7a4 43 = .ok (.bipush 16, 2) := by decide +kernel
theorem dJ6_bitCount_0f7a4_45 : decode cJ6_bitCount_0f7a4 45 = .ok (.iushr, 1) := by decide +kernel
theorem dJ6_bitCount_0f7a4_46 : decode cJ6_bitCount_0f7a4 46 = .ok (.iadd, 1) := by decide +kernel
theorem dJ6_bitCount_0f7a4_47 : decode cJ6_bitCount_0f7a4 47 = .ok (.istore_n 0, 1) := by decide +kernel
theorem dJ6_bitCount_0f7a4_48 : decode cJ6_bitCount_0f7a4 48 = .ok (.iload_n 0, 1) := by decide +kernel
theorem dJ6_bitCount_0f7a4_49 : decode cJ6_bitCount_0f7a4 49 = .ok (.bipush 63, 2) := by decide +kernel
theorem dJ6_bitCount_0f7a4_51 : decode cJ6_bitCount_0f7a4 51 = .ok (.iand, 1) := by decide +kernel
theorem dJ6_bitCount_0f7a4_52 : decode cJ6_bitCount_0f7a4 52 = .ok (.ireturn, 1) := by decide +kernel
theorem dJ9_abs_0f7a4_0 : decode cJ9_abs_0f7a4 0 = .ok (.iload_n 0, 1) := by decide +kernel
theorem dJ9_abs_0f7a4_1 : decode cJ9_abs_0f7a4 1 = .ok (.ifCond .ge 8, 3) := by decide +kernel
theorem dJ9_abs_0f7a4_4 : decode cJ9_abs_0f7a4 4 = .ok (.iload_n 0, 1) := by decide +kernel
theorem dJ9_abs_0f7a4_5 : decode cJ9_abs_0f7a4 5 = .ok (.ineg, 1) := by decide +kernel
theorem dJ9_abs_0f7a4_6 : decode cJ9_abs_0f7a4 6 = .ok (.goto 4, 3) := by decide +kernel
theorem dJ9_abs_0f7a4_9 : decode cJ9_abs_0f7a4 9 = .ok (.iload_n 0, 1) := by decide +kernel
theorem dJ9_abs_0f7a4_10 : decode cJ9_abs_0f7a4 10 = .ok (.ireturn, 1) := by decide +kernel
