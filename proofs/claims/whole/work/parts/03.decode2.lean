theorem dX5_letterAt_4 : decode cX5_letterAt 4 = .ok (.iconst 1, 1) := by decide +kernel
theorem dX5_letterAt_5 : decode cX5_letterAt 5 = .ok (.isub, 1) := by decide +kernel
theorem dX5_letterAt_6 : decode cX5_letterAt 6 = .ok (.iload_n 1, 1) := by decide +kernel
theorem dX5_letterAt_7 : decode cX5_letterAt 7 = .ok (.isub, 1) := by decide +kernel
theorem dX5_letterAt_8 : decode cX5_letterAt 8 = .ok (.istore_n 2, 1) := by decide +kernel
theorem dX5_letterAt_9 : decode cX5_letterAt 9 = .ok (.iload_n 2, 1) := by decide +kernel
theorem dX5_letterAt_10 : decode cX5_letterAt 10 = .ok (.ifCond .ge 5, 3) := by decide +kernel
theorem dX5_letterAt_13 : decode cX5_letterAt 13 = .ok (.iconst 0, 1) := by decide +kernel
theorem dX5_letterAt_14 : decode cX5_letterAt 14 = .ok (.ireturn, 1) := by decide +kernel
theorem dX5_letterAt_15 : decode cX5_letterAt 15 = .ok (.iload_n 0, 1) := by decide +kernel
theorem dX5_letterAt_16 : decode cX5_letterAt 16 = .ok (.istore_n 3, 1) := by decide +kernel
theorem dX5_letterAt_17 : decode cX5_letterAt 17 = .ok (.iconst 0, 1) := by decide +kernel
theorem dX5_letterAt_18 : decode cX5_letterAt 18 = .ok (.istore 4, 2) := by decide +kernel
theorem dX5_letterAt_20 : decode cX5_letterAt 20 = .ok (.iload 4, 2) := by decide +kernel
theorem dX5_letterAt_22 : decode cX5_letterAt 22 = .ok (.iload_n 2, 1) := by decide +kernel
theorem dX5_letterAt_23 : decode cX5_letterAt 23 = .ok (.if_icmp .ge 14, 3) := by decide +kernel
theorem dX5_letterAt_26 : decode cX5_letterAt 26 = .ok (.iload_n 3, 1) := by decide +kernel
theorem dX5_letterAt_27 : decode cX5_letterAt 27 = .ok (.bipush 10, 2) := by decide +kernel
theorem dX5_letterAt_29 : decode cX5_letterAt 29 = .ok (.idiv, 1) := by decide +kernel
theorem dX5_letterAt_30 : decode cX5_letterAt 30 = .ok (.istore_n 3, 1) := by decide +kernel
theorem dX5_letterAt_31 : decode cX5_letterAt 31 = .ok (.iinc 4 1, 3) := by decide +kernel
theorem dX5_letterAt_34 : decode cX5_letterAt 34 = .ok (.goto (-14), 3) := by decide +kernel
theorem dX5_letterAt_37 : decode cX5_letterAt 37 = .ok (.iload_n 3, 1) := by decide +kernel
theorem dX5_letterAt_38 : decode cX5_letterAt 38 = .ok (.bipush 10, 2) := by decide +kernel
theorem dX5_letterAt_40 : decode cX5_letterAt 40 = .ok (.irem, 1) := by decide +kernel
theorem dX5_letterAt_41 : decode cX5_letterAt 41 = .ok (.ireturn, 1) := by decide +kernel
theorem dX5_join_0 : decode cX5_join 0 = .ok (.iload_n 1, 1) := by decide +kernel
theorem dX5_join_1 : decode cX5_join 1 = .ok (.bipush 10, 2) := by decide +kernel
theorem dX5_join_3 : decode cX5_join 3 = .ok (.if_icmp .ge 8, 3) := by decide +kernel
theorem dX5_join_6 : decode cX5_join 6 = .ok (.bipush 10, 2) := by decide +kernel
theorem dX5_join_8 : decode cX5_join 8 = .ok (.goto 5, 3) := by decide +kernel
theorem dX5_join_11 : decode cX5_join 11 = .ok (.bipush 100, 2) := by decide +kernel
theorem dX5_join_13 : decode cX5_join 13 = .ok (.iload_n 0, 1) := by decide +kernel
theorem dX5_join_14 : decode cX5_join 14 = .ok (.imul, 1) := by decide +kernel
theorem dX5_join_15 : decode cX5_join 15 = .ok (.iload_n 1, 1) := by decide +kernel
theorem dX5_join_16 : decode cX5_join 16 = .ok (.iadd, 1) := by decide +kernel
theorem dX5_join_17 : decode cX5_join 17 = .ok (.ireturn, 1) := by decide +kernel
theorem dX5_fits_0 : decode cX5_fits 0 = .ok (.iload_n 0, 1) := by decide +kernel
theorem dX5_fits_1 : decode cX5_fits 1 = .ok (.bipush 6, 2) := by decide +kernel
theorem dX5_fits_3 : decode cX5_fits 3 = .ok (.if_icmp .ne 5, 3) := by decide +kernel
theorem dX5_fits_6 : decode cX5_fits 6 = .ok (.iconst 1, 1) := by decide +kernel
theorem dX5_fits_7 : decode cX5_fits 7 = .ok (.ireturn, 1) := by decide +kernel
theorem dX5_fits_8 : decode cX5_fits 8 = .ok (.iload_n 1, 1) := by decide +kernel
theorem dX5_fits_9 : decode cX5_fits 9 = .ok (.iload_n 0, 1) := by decide +kernel
theorem dX5_fits_10 : decode cX5_fits 10 = .ok (.bipush 7, 2) := by decide +kernel
theorem dX5_fits_12 : decode cX5_fits 12 = .ok (.if_icmp .ne 7, 3) := by decide +kernel
theorem dX5_fits_15 : decode cX5_fits 15 = .ok (.iconst 0, 1) := by decide +kernel
theorem dX5_fits_16 : decode cX5_fits 16 = .ok (.goto 4, 3) := by decide +kernel
theorem dX5_fits_19 : decode cX5_fits 19 = .ok (.iload_n 0, 1) := by decide +kernel
theorem dX5_fits_20 : decode cX5_fits 20 = .ok (.if_icmp .ne 7, 3) := by decide +kernel
theorem dX5_fits_23 : decode cX5_fits 23 = .ok (.iconst 1, 1) := by decide +kernel
theorem dX5_fits_24 : decode cX5_fits 24 = .ok (.goto 4, 3) := by decide +kernel
theorem dX5_fits_27 : decode cX5_fits 27 = .ok (.iconst 0, 1) := by decide +kernel
theorem dX5_fits_28 : decode cX5_fits 28 = .ok (.ireturn, 1) := by decide +kernel
theorem dX6_init_0 : decode cX6_init 0 = .ok (.aload_n 0, 1) := by decide +kernel
theorem dX6_init_1 : decode cX6_init 1 = .ok (.invokespecial 1, 3) := by decide +kernel
theorem dX6_init_4 : decode cX6_init 4 = .ok (.aload_n 0, 1) := by decide +kernel
theorem dX6_init_5 : decode cX6_init 5 = .ok (.new 7, 3) := by decide +kernel
theorem dX6_init_8 : decode cX6_init 8 = .ok (.dup, 1) := by decide +kernel
theorem dX6_init_9 : decode cX6_init 9 = .ok (.invokespecial 9, 3) := by decide +kernel
theorem dX6_init_12 : decode cX6_init 12 = .ok (.putfield 10, 3) := by decide +kernel
theorem dX6_init_15 : decode cX6_init 15 = .ok (.aload_n 0, 1) := by decide +kernel
theorem dX6_init_16 : decode cX6_init 16 = .ok (.new 16, 3) := by decide +kernel
theorem dX6_init_19 : decode cX6_init 19 = .ok (.dup, 1) := by decide +kernel
theorem dX6_init_20 : decode cX6_init 20 = .ok (.invokespecial 18, 3) := by decide +kernel
theorem dX6_init_23 : decode cX6_init 23 = .ok (.putfield 19, 3) := by decide +kernel
theorem dX6_init_26 : decode cX6_init 26 = .ok (.aload_n 0, 1) := by decide +kernel
theorem dX6_init_27 : decode cX6_init 27 = .ok (.new 23, 3) := by decide +kernel
theorem dX6_init_30 : decode cX6_init 30 = .ok (.dup, 1) := by decide +kernel
theorem dX6_init_31 : decode cX6_init 31 = .ok (.aload_n 0, 1) := by decide +kernel
theorem dX6_init_32 : decode cX6_init 32 = .ok (.getfield 19, 3) := by decide +kernel
theorem dX6_init_35 : decode cX6_init 35 = .ok (.invokespecial 25, 3) := by decide +kernel
theorem dX6_init_38 : decode cX6_init 38 = .ok (.putfield 28, 3) := by decide +kernel
theorem dX6_init_41 : decode cX6_init 41 = .ok (.aload_n 0, 1) := by decide +kernel
theorem dX6_init_42 : decode cX6_init 42 = .ok (.new 23, 3) := by decide +kernel
theorem dX6_init_45 : decode cX6_init 45 = .ok (.dup, 1) := by decide +kernel
theorem dX6_init_46 : decode cX6_init 46 = .ok (.aload_n 0, 1) := by decide +kernel
theorem dX6_init_47 : decode cX6_init 47 = .ok (.getfield 19, 3) := by decide +kernel
theorem dX6_init_50 : decode cX6_init 50 = .ok (.invokespecial 25, 3) := by decide +kernel
theorem dX6_init_53 : decode cX6_init 53 = .ok (.putfield 32, 3) := by decide +kernel
theorem dX6_init_56 : decode cX6_init 56 = .ok (.aload_n 0, 1) := by decide +kernel
theorem dX6_init_57 : decode cX6_init 57 = .ok (.iconst 2, 1) := by decide +kernel
theorem dX6_init_58 : decode cX6_init 58 = .ok (.anewarray 23, 3) := by decide +kernel
theorem dX6_init_61 : decode cX6_init 61 = .ok (.putfield 35, 3) := by decide +kernel
theorem dX6_init_64 : decode cX6_init 64 = .ok (.iconst 0, 1) := by decide +kernel
theorem dX6_init_65 : decode cX6_init 65 = .ok (.istore_n 1, 1) := by decide +kernel
theorem dX6_init_66 : decode cX6_init 66 = .ok (.iload_n 1, 1) := by decide +kernel
theorem dX6_init_67 : decode cX6_init 67 = .ok (.iconst 2, 1) := by decide +kernel
theorem dX6_init_68 : decode cX6_init 68 = .ok (.if_icmp .ge 26, 3) := by decide +kernel
theorem dX6_init_71 : decode cX6_init 71 = .ok (.aload_n 0, 1) := by decide +kernel
theorem dX6_init_72 : decode cX6_init 72 = .ok (.getfield 35, 3) := by decide +kernel
theorem dX6_init_75 : decode cX6_init 75 = .ok (.iload_n 1, 1) := by decide +kernel
theorem dX6_init_76 : decode cX6_init 76 = .ok (.new 23, 3) := by decide +kernel
theorem dX6_init_79 : decode cX6_init 79 = .ok (.dup, 1) := by decide +kernel
theorem dX6_init_80 : decode cX6_init 80 = .ok (.aload_n 0, 1) := by decide +kernel
theorem dX6_init_81 : decode cX6_init 81 = .ok (.getfield 19, 3) := by decide +kernel
theorem dX6_init_84 : decode cX6_init 84 = .ok (.invokespecial 25, 3) := by decide +kernel
theorem dX6_init_87 : decode cX6_init 87 = .ok (.aastore, 1) := by decide +kernel
theorem dX6_init_88 : decode cX6_init 88 = .ok (.iinc 1 1, 3) := by decide +kernel
theorem dX6_init_91 : decode cX6_init 91 = .ok (.goto (-25), 3) := by decide +kernel
theorem dX6_init_94 : decode cX6_init 94 = .ok (.aload_n 0, 1) := by decide +kernel
theorem dX6_init_95 : decode cX6_init 95 = .ok (.iconst 2, 1) := by decide +kernel
theorem dX6_init_96 : decode cX6_init 96 = .ok (.newarray .boolean, 2) := by decide +kernel
theorem dX6_init_98 : decode cX6_init 98 = .ok (.putfield 39, 3) := by decide +kernel
theorem dX6_init_101 : decode cX6_init 101 = .ok (.aload_n 0, 1) := by decide +kernel
theorem dX6_init_102 : decode cX6_init 102 = .ok (.new 43, 3) := by decide +kernel
theorem dX6_init_105 : decode cX6_init 105 = .ok (.dup, 1) := by decide +kernel
theorem dX6_init_106 : decode cX6_init 106 = .ok (.invokespecial 45, 3) := by decide +kernel
theorem dX6_init_109 : decode cX6_init 109 = .ok (.putfield 46, 3) := by decide +kernel
theorem dX6_init_112 : decode cX6_init 112 = .ok (.aload_n 0, 1) := by decide +kernel
theorem dX6_init_113 : decode cX6_init 113 = .ok (.new 50, 3) := by decide +kernel
theorem dX6_init_116 : decode cX6_init 116 = .ok (.dup, 1) := by decide +kernel
theorem dX6_init_117 : decode cX6_init 117 = .ok (.invokespecial 52, 3) := by decide +kernel
theorem dX6_init_120 : decode cX6_init 120 = .ok (.putfield 53, 3) := by decide +kernel
theorem dX6_init_123 : decode cX6_init 123 = .ok (.aload_n 0, 1) := by decide +kernel
theorem dX6_init_124 : decode cX6_init 124 = .ok (.lconst 0, 1) := by decide +kernel
theorem dX6_init_125 : decode cX6_init 125 = .ok (.putfield 57, 3) := by decide +kernel
theorem dX6_init_128 : decode cX6_init 128 = .ok (.return_, 1) := by decide +kernel
theorem dX6_write_0 : decode cX6_write 0 = .ok (.iload_n 1, 1) := by decide +kernel
theorem dX6_write_1 : decode cX6_write 1 = .ok (.ifCond .lt 10, 3) := by decide +kernel
theorem dX6_write_4 : decode cX6_write 4 = .ok (.iload_n 1, 1) := by decide +kernel
theorem dX6_write_5 : decode cX6_write 5 = .ok (.sipush 255, 3) := by decide +kernel
theorem dX6_write_8 : decode cX6_write 8 = .ok (.if_icmp .le 6, 3) := by decide +kernel
theorem dX6_write_11 : decode cX6_write 11 = .ok (.bipush (-2), 2) := by decide +kernel
theorem dX6_write_13 : decode cX6_write 13 = .ok (.ireturn, 1) := by decide +kernel
theorem dX6_write_14 : decode cX6_write 14 = .ok (.aload_n 0, 1) := by decide +kernel
theorem dX6_write_15 : decode cX6_write 15 = .ok (.getfield 10, 3) := by decide +kernel
theorem dX6_write_18 : decode cX6_write 18 = .ok (.iload_n 1, 1) := by decide +kernel
theorem dX6_write_19 : decode cX6_write 19 = .ok (.invokevirtual 61, 3) := by decide +kernel
theorem dX6_write_22 : decode cX6_write 22 = .ok (.ifCond .eq 13, 3) := by decide +kernel
theorem dX6_write_25 : decode cX6_write 25 = .ok (.aload_n 0, 1) := by decide +kernel
theorem dX6_write_26 : decode cX6_write 26 = .ok (.getfield 10, 3) := by decide +kernel
theorem dX6_write_29 : decode cX6_write 29 = .ok (.getfield 65, 3) := by decide +kernel
theorem dX6_write_32 : decode cX6_write 32 = .ok (.goto 5, 3) := by decide +kernel
theorem dX6_write_35 : decode cX6_write 35 = .ok (.bipush (-4), 2) := by decide +kernel
theorem dX6_write_37 : decode cX6_write 37 = .ok (.ireturn, 1) := by decide +kernel
theorem dX6_wipe_0 : decode cX6_wipe 0 = .ok (.aload_n 0, 1) := by decide +kernel
theorem dX6_wipe_1 : decode cX6_wipe 1 = .ok (.getfield 10, 3) := by decide +kernel
theorem dX6_wipe_4 : decode cX6_wipe 4 = .ok (.getfield 65, 3) := by decide +kernel
theorem dX6_wipe_7 : decode cX6_wipe 7 = .ok (.istore_n 1, 1) := by decide +kernel
theorem dX6_wipe_8 : decode cX6_wipe 8 = .ok (.aload_n 0, 1) := by decide +kernel
theorem dX6_wipe_9 : decode cX6_wipe 9 = .ok (.getfield 10, 3) := by decide +kernel
theorem dX6_wipe_12 : decode cX6_wipe 12 = .ok (.iconst 0, 1) := by decide +kernel
theorem dX6_wipe_13 : decode cX6_wipe 13 = .ok (.putfield 65, 3) := by decide +kernel
theorem dX6_wipe_16 : decode cX6_wipe 16 = .ok (.iload_n 1, 1) := by decide +kernel
theorem dX6_wipe_17 : decode cX6_wipe 17 = .ok (.ireturn, 1) := by decide +kernel
theorem dX6_fault_0 : decode cX6_fault 0 = .ok (.iload_n 1, 1) := by decide +kernel
theorem dX6_fault_1 : decode cX6_fault 1 = .ok (.ifCond .eq 11, 3) := by decide +kernel
theorem dX6_fault_4 : decode cX6_fault 4 = .ok (.iload_n 1, 1) := by decide +kernel
theorem dX6_fault_5 : decode cX6_fault 5 = .ok (.iconst 1, 1) := by decide +kernel
theorem dX6_fault_6 : decode cX6_fault 6 = .ok (.if_icmp .eq 6, 3) := by decide +kernel
theorem dX6_fault_9 : decode cX6_fault 9 = .ok (.bipush (-2), 2) := by decide +kernel
theorem dX6_fault_11 : decode cX6_fault 11 = .ok (.ireturn, 1) := by decide +kernel
theorem dX6_fault_12 : decode cX6_fault 12 = .ok (.aload_n 0, 1) := by decide +kernel
theorem dX6_fault_13 : decode cX6_fault 13 = .ok (.getfield 10, 3) := by decide +kernel
theorem dX6_fault_16 : decode cX6_fault 16 = .ok (.invokevirtual 69, 3) := by decide +kernel
theorem dX6_fault_19 : decode cX6_fault 19 = .ok (.iload_n 1, 1) := by decide +kernel
theorem dX6_fault_20 : decode cX6_fault 20 = .ok (.ifCond .ne 13, 3) := by decide +kernel
theorem dX6_fault_23 : decode cX6_fault 23 = .ok (.aload_n 0, 1) := by decide +kernel
theorem dX6_fault_24 : decode cX6_fault 24 = .ok (.getfield 10, 3) := by decide +kernel
theorem dX6_fault_27 : decode cX6_fault 27 = .ok (.getfield 72, 3) := by decide +kernel
theorem dX6_fault_30 : decode cX6_fault 30 = .ok (.goto 10, 3) := by decide +kernel
theorem dX6_fault_33 : decode cX6_fault 33 = .ok (.aload_n 0, 1) := by decide +kernel
theorem dX6_fault_34 : decode cX6_fault 34 = .ok (.getfield 10, 3) := by decide +kernel
theorem dX6_fault_37 : decode cX6_fault 37 = .ok (.getfield 75, 3) := by decide +kernel
theorem dX6_fault_40 : decode cX6_fault 40 = .ok (.ireturn, 1) := by decide +kernel
theorem dX6_list_0 : decode cX6_list 0 = .ok (.aload_n 0, 1) := by decide +kernel
theorem dX6_list_1 : decode cX6_list 1 = .ok (.getfield 10, 3) := by decide +kernel
theorem dX6_list_4 : decode cX6_list 4 = .ok (.invokevirtual 69, 3) := by decide +kernel
theorem dX6_list_7 : decode cX6_list 7 = .ok (.aload_n 0, 1) := by decide +kernel
theorem dX6_list_8 : decode cX6_list 8 = .ok (.getfield 10, 3) := by decide +kernel
theorem dX6_list_11 : decode cX6_list 11 = .ok (.getfield 72, 3) := by decide +kernel
theorem dX6_list_14 : decode cX6_list 14 = .ok (.bipush (-9), 2) := by decide +kernel
theorem dX6_list_16 : decode cX6_list 16 = .ok (.if_icmp .eq 6, 3) := by decide +kernel
theorem dX6_list_19 : decode cX6_list 19 = .ok (.bipush (-3), 2) := by decide +kernel
theorem dX6_list_21 : decode cX6_list 21 = .ok (.ireturn, 1) := by decide +kernel
theorem dX6_list_22 : decode cX6_list 22 = .ok (.aload_n 0, 1) := by decide +kernel
theorem dX6_list_23 : decode cX6_list 23 = .ok (.getfield 19, 3) := by decide +kernel
theorem dX6_list_26 : decode cX6_list 26 = .ok (.aload_n 0, 1) := by decide +kernel
theorem dX6_list_27 : decode cX6_list 27 = .ok (.getfield 10, 3) := by decide +kernel
theorem dX6_list_30 : decode cX6_list 30 = .ok (.invokevirtual 78, 3) := by decide +kernel
theorem dX6_list_33 : decode cX6_list 33 = .ok (.aload_n 0, 1) := by decide +kernel
theorem dX6_list_34 : decode cX6_list 34 = .ok (.getfield 28, 3) := by decide +kernel
theorem dX6_list_37 : decode cX6_list 37 = .ok (.aload_n 0, 1) := by decide +kernel
theorem dX6_list_38 : decode cX6_list 38 = .ok (.getfield 10, 3) := by decide +kernel
theorem dX6_list_41 : decode cX6_list 41 = .ok (.invokevirtual 82, 3) := by decide +kernel
theorem dX6_list_44 : decode cX6_list 44 = .ok (.aload_n 0, 1) := by decide +kernel
theorem dX6_list_45 : decode cX6_list 45 = .ok (.getfield 46, 3) := by decide +kernel
theorem dX6_list_48 : decode cX6_list 48 = .ok (.iconst 0, 1) := by decide +kernel
theorem dX6_list_49 : decode cX6_list 49 = .ok (.putfield 85, 3) := by decide +kernel
theorem dX6_list_52 : decode cX6_list 52 = .ok (.iconst 0, 1) := by decide +kernel
theorem dX6_list_53 : decode cX6_list 53 = .ok (.istore_n 1, 1) := by decide +kernel
theorem dX6_list_54 : decode cX6_list 54 = .ok (.iload_n 1, 1) := by decide +kernel
theorem dX6_list_55 : decode cX6_list 55 = .ok (.iconst 2, 1) := by decide +kernel
theorem dX6_list_56 : decode cX6_list 56 = .ok (.if_icmp .ge 16, 3) := by decide +kernel
theorem dX6_list_59 : decode cX6_list 59 = .ok (.aload_n 0, 1) := by decide +kernel
theorem dX6_list_60 : decode cX6_list 60 = .ok (.getfield 39, 3) := by decide +kernel
theorem dX6_list_63 : decode cX6_list 63 = .ok (.iload_n 1, 1) := by decide +kernel
theorem dX6_list_64 : decode cX6_list 64 = .ok (.iconst 0, 1) := by decide +kernel
theorem dX6_list_65 : decode cX6_list 65 = .ok (.bastore, 1) := by decide +kernel
theorem dX6_list_66 : decode cX6_list 66 = .ok (.iinc 1 1, 3) := by decide +kernel
theorem dX6_list_69 : decode cX6_list 69 = .ok (.goto (-15), 3) := by decide +kernel
theorem dX6_list_72 : decode cX6_list 72 = .ok (.aload_n 0, 1) := by decide +kernel
theorem dX6_list_73 : decode cX6_list 73 = .ok (.getfield 10, 3) := by decide +kernel
theorem dX6_list_76 : decode cX6_list 76 = .ok (.getfield 88, 3) := by decide +kernel
theorem dX6_list_79 : decode cX6_list 79 = .ok (.ireturn, 1) := by decide +kernel
theorem dX6_about_0 : decode cX6_about 0 = .ok (.iload_n 1, 1) := by decide +kernel
theorem dX6_about_1 : decode cX6_about 1 = .ok (.tableswitch 142 0 9 #[55, 63, 71, 79, 94, 102, 110, 118, 126, 134], 55) := by decide +kernel
theorem dX6_about_56 : decode cX6_about 56 = .ok (.aload_n 0, 1) := by decide +kernel
theorem dX6_about_57 : decode cX6_about 57 = .ok (.getfield 19, 3) := by decide +kernel
theorem dX6_about_60 : decode cX6_about 60 = .ok (.getfield 91, 3) := by decide +kernel
theorem dX6_about_63 : decode cX6_about 63 = .ok (.ireturn, 1) := by decide +kernel
theorem dX6_about_64 : decode cX6_about 64 = .ok (.aload_n 0, 1) := by decide +kernel
theorem dX6_about_65 : decode cX6_about 65 = .ok (.getfield 19, 3) := by decide +kernel
theorem dX6_about_68 : decode cX6_about 68 = .ok (.getfield 94, 3) := by decide +kernel
theorem dX6_about_71 : decode cX6_about 71 = .ok (.ireturn, 1) := by decide +kernel
theorem dX6_about_72 : decode cX6_about 72 = .ok (.aload_n 0, 1) := by decide +kernel
theorem dX6_about_73 : decode cX6_about 73 = .ok (.getfield 28, 3) := by decide +kernel
theorem dX6_about_76 : decode cX6_about 76 = .ok (.getfield 97, 3) := by decide +kernel
theorem dX6_about_79 : decode cX6_about 79 = .ok (.ireturn, 1) := by decide +kernel
theorem dX6_about_80 : decode cX6_about 80 = .ok (.aload_n 0, 1) := by decide +kernel
theorem dX6_about_81 : decode cX6_about 81 = .ok (.getfield 28, 3) := by decide +kernel
theorem dX6_about_84 : decode cX6_about 84 = .ok (.aload_n 0, 1) := by decide +kernel
theorem dX6_about_85 : decode cX6_about 85 = .ok (.getfield 28, 3) := by decide +kernel
theorem dX6_about_88 : decode cX6_about 88 = .ok (.invokevirtual 100, 3) := by decide +kernel
theorem dX6_about_91 : decode cX6_about 91 = .ok (.invokevirtual 104, 3) := by decide +kernel
theorem dX6_about_94 : decode cX6_about 94 = .ok (.ireturn, 1) := by decide +kernel
theorem dX6_about_95 : decode cX6_about 95 = .ok (.aload_n 0, 1) := by decide +kernel
theorem dX6_about_96 : decode cX6_about 96 = .ok (.getfield 28, 3) := by decide +kernel
theorem dX6_about_99 : decode cX6_about 99 = .ok (.invokevirtual 108, 3) := by decide +kernel
theorem dX6_about_102 : decode cX6_about 102 = .ok (.ireturn, 1) := by decide +kernel
theorem dX6_about_103 : decode cX6_about 103 = .ok (.aload_n 0, 1) := by decide +kernel
theorem dX6_about_104 : decode cX6_about 104 = .ok (.getfield 28, 3) := by decide +kernel
theorem dX6_about_107 : decode cX6_about 107 = .ok (.invokevirtual 111, 3) := by decide +kernel
theorem dX6_about_110 : decode cX6_about 110 = .ok (.ireturn, 1) := by decide +kernel
theorem dX6_about_111 : decode cX6_about 111 = .ok (.aload_n 0, 1) := by decide +kernel
theorem dX6_about_112 : decode cX6_about 112 = .ok (.getfield 28, 3) := by decide +kernel
theorem dX6_about_115 : decode cX6_about 115 = .ok (.invokevirtual 114, 3) := by decide +kernel
theorem dX6_about_118 : decode cX6_about 118 = .ok (.ireturn, 1) := by decide +kernel
theorem dX6_about_119 : decode cX6_about 119 = .ok (.aload_n 0, 1) := by decide +kernel
theorem dX6_about_120 : decode cX6_about 120 = .ok (.getfield 46, 3) := by decide +kernel
theorem dX6_about_123 : decode cX6_about 123 = .ok (.getfield 85, 3) := by decide +kernel
theorem dX6_about_126 : decode cX6_about 126 = .ok (.ireturn, 1) := by decide +kernel
theorem dX6_about_127 : decode cX6_about 127 = .ok (.aload_n 0, 1) := by decide +kernel
theorem dX6_about_128 : decode cX6_about 128 = .ok (.getfield 53, 3) := by decide +kernel
theorem dX6_about_131 : decode cX6_about 131 = .ok (.getfield 117, 3) := by decide +kernel
theorem dX6_about_134 : decode cX6_about 134 = .ok (.ireturn, 1) := by decide +kernel
theorem dX6_about_135 : decode cX6_about 135 = .ok (.aload_n 0, 1) := by decide +kernel
theorem dX6_about_136 : decode cX6_about 136 = .ok (.getfield 10, 3) := by decide +kernel
theorem dX6_about_139 : decode cX6_about 139 = .ok (.getfield 65, 3) := by decide +kernel
theorem dX6_about_142 : decode cX6_about 142 = .ok (.ireturn, 1) := by decide +kernel
theorem dX6_about_143 : decode cX6_about 143 = .ok (.bipush (-2), 2) := by decide +kernel
theorem dX6_about_145 : decode cX6_about 145 = .ok (.ireturn, 1) := by decide +kernel
theorem dX6_part_0 : decode cX6_part 0 = .ok (.iload_n 1, 1) := by decide +kernel
theorem dX6_part_1 : decode cX6_part 1 = .ok (.ifCond .eq 11, 3) := by decide +kernel
theorem dX6_part_4 : decode cX6_part 4 = .ok (.iload_n 1, 1) := by decide +kernel
theorem dX6_part_5 : decode cX6_part 5 = .ok (.iconst 1, 1) := by decide +kernel
theorem dX6_part_6 : decode cX6_part 6 = .ok (.if_icmp .eq 6, 3) := by decide +kernel
theorem dX6_part_9 : decode cX6_part 9 = .ok (.bipush (-2), 2) := by decide +kernel
theorem dX6_part_11 : decode cX6_part 11 = .ok (.ireturn, 1) := by decide +kernel
theorem dX6_part_12 : decode cX6_part 12 = .ok (.iload_n 1, 1) := by decide +kernel
theorem dX6_part_13 : decode cX6_part 13 = .ok (.ifCond .ne 28, 3) := by decide +kernel
theorem dX6_part_16 : decode cX6_part 16 = .ok (.aload_n 0, 1) := by decide +kernel
theorem dX6_part_17 : decode cX6_part 17 = .ok (.getfield 19, 3) := by decide +kernel
theorem dX6_part_20 : decode cX6_part 20 = .ok (.iload_n 2, 1) := by decide +kernel
theorem dX6_part_21 : decode cX6_part 21 = .ok (.invokevirtual 118, 3) := by decide +kernel
theorem dX6_part_24 : decode cX6_part 24 = .ok (.ifCond .eq 15, 3) := by decide +kernel
theorem dX6_part_27 : decode cX6_part 27 = .ok (.aload_n 0, 1) := by decide +kernel
theorem dX6_part_28 : decode cX6_part 28 = .ok (.getfield 19, 3) := by decide +kernel
theorem dX6_part_31 : decode cX6_part 31 = .ok (.getfield 121, 3) := by decide +kernel
theorem dX6_part_34 : decode cX6_part 34 = .ok (.iload_n 2, 1) := by decide +kernel
theorem dX6_part_35 : decode cX6_part 35 = .ok (.iaload, 1) := by decide +kernel
theorem dX6_part_36 : decode cX6_part 36 = .ok (.goto 4, 3) := by decide +kernel
theorem dX6_part_39 : decode cX6_part 39 = .ok (.iconst (-1), 1) := by decide +kernel
theorem dX6_part_40 : decode cX6_part 40 = .ok (.ireturn, 1) := by decide +kernel
theorem dX6_part_41 : decode cX6_part 41 = .ok (.aload_n 0, 1) := by decide +kernel
theorem dX6_part_42 : decode cX6_part 42 = .ok (.getfield 19, 3) := by decide +kernel
theorem dX6_part_45 : decode cX6_part 45 = .ok (.iload_n 2, 1) := by decide +kernel
theorem dX6_part_46 : decode cX6_part 46 = .ok (.invokevirtual 125, 3) := by decide +kernel
theorem dX6_part_49 : decode cX6_part 49 = .ok (.ifCond .eq 15, 3) := by decide +kernel
theorem dX6_part_52 : decode cX6_part 52 = .ok (.aload_n 0, 1) := by decide +kernel
theorem dX6_part_53 : decode cX6_part 53 = .ok (.getfield 19, 3) := by decide +kernel
theorem dX6_part_56 : decode cX6_part 56 = .ok (.getfield 128, 3) := by decide +kernel
theorem dX6_part_59 : decode cX6_part 59 = .ok (.iload_n 2, 1) := by decide +kernel
theorem dX6_part_60 : decode cX6_part 60 = .ok (.iaload, 1) := by decide +kernel
theorem dX6_part_61 : decode cX6_part 61 = .ok (.goto 4, 3) := by decide +kernel
theorem dX6_part_64 : decode cX6_part 64 = .ok (.iconst (-1), 1) := by decide +kernel
theorem dX6_part_65 : decode cX6_part 65 = .ok (.ireturn, 1) := by decide +kernel
theorem dX6_sign_0 : decode cX6_sign 0 = .ok (.aload_n 0, 1) := by decide +kernel
theorem dX6_sign_1 : decode cX6_sign 1 = .ok (.getfield 28, 3) := by decide +kernel
theorem dX6_sign_4 : decode cX6_sign 4 = .ok (.iload_n 1, 1) := by decide +kernel
theorem dX6_sign_5 : decode cX6_sign 5 = .ok (.invokevirtual 131, 3) := by decide +kernel
theorem dX6_sign_8 : decode cX6_sign 8 = .ok (.ifCond .ne 5, 3) := by decide +kernel
theorem dX6_sign_11 : decode cX6_sign 11 = .ok (.iconst (-1), 1) := by decide +kernel
theorem dX6_sign_12 : decode cX6_sign 12 = .ok (.ireturn, 1) := by decide +kernel
theorem dX6_sign_13 : decode cX6_sign 13 = .ok (.iload_n 2, 1) := by decide +kernel
theorem dX6_sign_14 : decode cX6_sign 14 = .ok (.invokestatic 134, 3) := by decide +kernel
theorem dX6_sign_17 : decode cX6_sign 17 = .ok (.ifCond .eq 15, 3) := by decide +kernel
theorem dX6_sign_20 : decode cX6_sign 20 = .ok (.aload_n 0, 1) := by decide +kernel
theorem dX6_sign_21 : decode cX6_sign 21 = .ok (.getfield 28, 3) := by decide +kernel
theorem dX6_sign_24 : decode cX6_sign 24 = .ok (.iload_n 1, 1) := by decide +kernel
theorem dX6_sign_25 : decode cX6_sign 25 = .ok (.iload_n 2, 1) := by decide +kernel
theorem dX6_sign_26 : decode cX6_sign 26 = .ok (.invokevirtual 137, 3) := by decide +kernel
theorem dX6_sign_29 : decode cX6_sign 29 = .ok (.goto 5, 3) := by decide +kernel
theorem dX6_sign_32 : decode cX6_sign 32 = .ok (.bipush (-2), 2) := by decide +kernel
theorem dX6_sign_34 : decode cX6_sign 34 = .ok (.ireturn, 1) := by decide +kernel
theorem dX6_order_0 : decode cX6_order 0 = .ok (.aload_n 0, 1) := by decide +kernel
theorem dX6_order_1 : decode cX6_order 1 = .ok (.getfield 28, 3) := by decide +kernel
theorem dX6_order_4 : decode cX6_order 4 = .ok (.iload_n 1, 1) := by decide +kernel
theorem dX6_order_5 : decode cX6_order 5 = .ok (.invokevirtual 131, 3) := by decide +kernel
theorem dX6_order_8 : decode cX6_order 8 = .ok (.ifCond .eq 15, 3) := by decide +kernel
theorem dX6_order_11 : decode cX6_order 11 = .ok (.aload_n 0, 1) := by decide +kernel
theorem dX6_order_12 : decode cX6_order 12 = .ok (.getfield 28, 3) := by decide +kernel
theorem dX6_order_15 : decode cX6_order 15 = .ok (.getfield 141, 3) := by decide +kernel
theorem dX6_order_18 : decode cX6_order 18 = .ok (.iload_n 1, 1) := by decide +kernel
theorem dX6_order_19 : decode cX6_order 19 = .ok (.iaload, 1) := by decide +kernel
theorem dX6_order_20 : decode cX6_order 20 = .ok (.goto 4, 3) := by decide +kernel
theorem dX6_order_23 : decode cX6_order 23 = .ok (.iconst (-1), 1) := by decide +kernel
theorem dX6_order_24 : decode cX6_order 24 = .ok (.ireturn, 1) := by decide +kernel
theorem dX6_made_0 : decode cX6_made 0 = .ok (.aload_n 0, 1) := by decide +kernel
theorem dX6_made_1 : decode cX6_made 1 = .ok (.getfield 19, 3) := by decide +kernel
theorem dX6_made_4 : decode cX6_made 4 = .ok (.iload_n 1, 1) := by decide +kernel
theorem dX6_made_5 : decode cX6_made 5 = .ok (.iload_n 2, 1) := by decide +kernel
theorem dX6_made_6 : decode cX6_made 6 = .ok (.invokevirtual 144, 3) := by decide +kernel
theorem dX6_made_9 : decode cX6_made 9 = .ok (.ifCond .eq 15, 3) := by decide +kernel
theorem dX6_made_12 : decode cX6_made 12 = .ok (.aload_n 0, 1) := by decide +kernel
theorem dX6_made_13 : decode cX6_made 13 = .ok (.getfield 28, 3) := by decide +kernel
theorem dX6_made_16 : decode cX6_made 16 = .ok (.iload_n 1, 1) := by decide +kernel
theorem dX6_made_17 : decode cX6_made 17 = .ok (.iload_n 2, 1) := by decide +kernel
theorem dX6_made_18 : decode cX6_made 18 = .ok (.invokevirtual 148, 3) := by decide +kernel
theorem dX6_made_21 : decode cX6_made 21 = .ok (.goto 4, 3) := by decide +kernel
theorem dX6_made_24 : decode cX6_made 24 = .ok (.iconst (-1), 1) := by decide +kernel
theorem dX6_made_25 : decode cX6_made 25 = .ok (.ireturn, 1) := by decide +kernel
theorem dX6_step_0 : decode cX6_step 0 = .ok (.aload_n 0, 1) := by decide +kernel
theorem dX6_step_1 : decode cX6_step 1 = .ok (.getfield 19, 3) := by decide +kernel
theorem dX6_step_4 : decode cX6_step 4 = .ok (.iload_n 1, 1) := by decide +kernel
theorem dX6_step_5 : decode cX6_step 5 = .ok (.iload_n 2, 1) := by decide +kernel
theorem dX6_step_6 : decode cX6_step 6 = .ok (.invokevirtual 144, 3) := by decide +kernel
theorem dX6_step_9 : decode cX6_step 9 = .ok (.ifCond .ne 5, 3) := by decide +kernel
theorem dX6_step_12 : decode cX6_step 12 = .ok (.iconst (-1), 1) := by decide +kernel
theorem dX6_step_13 : decode cX6_step 13 = .ok (.ireturn, 1) := by decide +kernel
theorem dX6_step_14 : decode cX6_step 14 = .ok (.iload_n 3, 1) := by decide +kernel
theorem dX6_step_15 : decode cX6_step 15 = .ok (.ifCond .lt 14, 3) := by decide +kernel
theorem dX6_step_18 : decode cX6_step 18 = .ok (.iload_n 3, 1) := by decide +kernel
theorem dX6_step_19 : decode cX6_step 19 = .ok (.aload_n 0, 1) := by decide +kernel
theorem dX6_step_20 : decode cX6_step 20 = .ok (.getfield 28, 3) := by decide +kernel
theorem dX6_step_23 : decode cX6_step 23 = .ok (.getfield 97, 3) := by decide +kernel
theorem dX6_step_26 : decode cX6_step 26 = .ok (.if_icmp .le 6, 3) := by decide +kernel
theorem dX6_step_29 : decode cX6_step 29 = .ok (.bipush (-2), 2) := by decide +kernel
theorem dX6_step_31 : decode cX6_step 31 = .ok (.ireturn, 1) := by decide +kernel
theorem dX6_step_32 : decode cX6_step 32 = .ok (.aload_n 0, 1) := by decide +kernel
theorem dX6_step_33 : decode cX6_step 33 = .ok (.getfield 28, 3) := by decide +kernel
theorem dX6_step_36 : decode cX6_step 36 = .ok (.aload_n 0, 1) := by decide +kernel
theorem dX6_step_37 : decode cX6_step 37 = .ok (.getfield 19, 3) := by decide +kernel
theorem dX6_step_40 : decode cX6_step 40 = .ok (.iload_n 1, 1) := by decide +kernel
theorem dX6_step_41 : decode cX6_step 41 = .ok (.iload_n 2, 1) := by decide +kernel
theorem dX6_step_42 : decode cX6_step 42 = .ok (.invokevirtual 151, 3) := by decide +kernel
theorem dX6_step_45 : decode cX6_step 45 = .ok (.iload_n 3, 1) := by decide +kernel
theorem dX6_step_46 : decode cX6_step 46 = .ok (.invokevirtual 154, 3) := by decide +kernel
theorem dX6_step_49 : decode cX6_step 49 = .ok (.ireturn, 1) := by decide +kernel
theorem dX6_apart_0 : decode cX6_apart 0 = .ok (.iload_n 1, 1) := by decide +kernel
theorem dX6_apart_1 : decode cX6_apart 1 = .ok (.invokestatic 157, 3) := by decide +kernel
theorem dX6_apart_4 : decode cX6_apart 4 = .ok (.ifCond .eq 12, 3) := by decide +kernel
theorem dX6_apart_7 : decode cX6_apart 7 = .ok (.iload_n 2, 1) := by decide +kernel
theorem dX6_apart_8 : decode cX6_apart 8 = .ok (.ifCond .eq 11, 3) := by decide +kernel
theorem dX6_apart_11 : decode cX6_apart 11 = .ok (.iload_n 2, 1) := by decide +kernel
theorem dX6_apart_12 : decode cX6_apart 12 = .ok (.iconst 1, 1) := by decide +kernel
theorem dX6_apart_13 : decode cX6_apart 13 = .ok (.if_icmp .eq 6, 3) := by decide +kernel
theorem dX6_apart_16 : decode cX6_apart 16 = .ok (.bipush (-2), 2) := by decide +kernel
theorem dX6_apart_18 : decode cX6_apart 18 = .ok (.ireturn, 1) := by decide +kernel
theorem dX6_apart_19 : decode cX6_apart 19 = .ok (.iconst 0, 1) := by decide +kernel
theorem dX6_apart_20 : decode cX6_apart 20 = .ok (.istore_n 3, 1) := by decide +kernel
theorem dX6_apart_21 : decode cX6_apart 21 = .ok (.bipush (-9), 2) := by decide +kernel
theorem dX6_apart_23 : decode cX6_apart 23 = .ok (.istore 4, 2) := by decide +kernel
theorem dX6_apart_25 : decode cX6_apart 25 = .ok (.iconst 0, 1) := by decide +kernel
theorem dX6_apart_26 : decode cX6_apart 26 = .ok (.istore 5, 2) := by decide +kernel
theorem dX6_apart_28 : decode cX6_apart 28 = .ok (.iload 5, 2) := by decide +kernel
theorem dX6_apart_30 : decode cX6_apart 30 = .ok (.aload_n 0, 1) := by decide +kernel
theorem dX6_apart_31 : decode cX6_apart 31 = .ok (.getfield 19, 3) := by decide +kernel
theorem dX6_apart_34 : decode cX6_apart 34 = .ok (.getfield 91, 3) := by decide +kernel
theorem dX6_apart_37 : decode cX6_apart 37 = .ok (.if_icmp .ge 67, 3) := by decide +kernel
theorem dX6_apart_40 : decode cX6_apart 40 = .ok (.iconst 0, 1) := by decide +kernel
theorem dX6_apart_41 : decode cX6_apart 41 = .ok (.istore 6, 2) := by decide +kernel
theorem dX6_apart_43 : decode cX6_apart 43 = .ok (.iload 6, 2) := by decide +kernel
theorem dX6_apart_45 : decode cX6_apart 45 = .ok (.aload_n 0, 1) := by decide +kernel
theorem dX6_apart_46 : decode cX6_apart 46 = .ok (.getfield 19, 3) := by decide +kernel
theorem dX6_apart_49 : decode cX6_apart 49 = .ok (.getfield 94, 3) := by decide +kernel
theorem dX6_apart_52 : decode cX6_apart 52 = .ok (.if_icmp .ge 46, 3) := by decide +kernel
theorem dX6_apart_55 : decode cX6_apart 55 = .ok (.aload_n 0, 1) := by decide +kernel
theorem dX6_apart_56 : decode cX6_apart 56 = .ok (.getfield 28, 3) := by decide +kernel
theorem dX6_apart_59 : decode cX6_apart 59 = .ok (.iload 5, 2) := by decide +kernel
theorem dX6_apart_61 : decode cX6_apart 61 = .ok (.iload 6, 2) := by decide +kernel
theorem dX6_apart_63 : decode cX6_apart 63 = .ok (.invokevirtual 148, 3) := by decide +kernel
theorem dX6_apart_66 : decode cX6_apart 66 = .ok (.iload_n 1, 1) := by decide +kernel
theorem dX6_apart_67 : decode cX6_apart 67 = .ok (.if_icmp .ne 25, 3) := by decide +kernel
theorem dX6_apart_70 : decode cX6_apart 70 = .ok (.iload_n 3, 1) := by decide +kernel
theorem dX6_apart_71 : decode cX6_apart 71 = .ok (.ifCond .ne 14, 3) := by decide +kernel
theorem dX6_apart_74 : decode cX6_apart 74 = .ok (.bipush 10, 2) := by decide +kernel
theorem dX6_apart_76 : decode cX6_apart 76 = .ok (.iload 5, 2) := by decide +kernel
theorem dX6_apart_78 : decode cX6_apart 78 = .ok (.imul, 1) := by decide +kernel
theorem dX6_apart_79 : decode cX6_apart 79 = .ok (.iload 6, 2) := by decide +kernel
theorem dX6_apart_81 : decode cX6_apart 81 = .ok (.iadd, 1) := by decide +kernel
theorem dX6_apart_82 : decode cX6_apart 82 = .ok (.goto 5, 3) := by decide +kernel
theorem dX6_apart_85 : decode cX6_apart 85 = .ok (.iload 4, 2) := by decide +kernel
theorem dX6_apart_87 : decode cX6_apart 87 = .ok (.istore 4, 2) := by decide +kernel
theorem dX6_apart_89 : decode cX6_apart 89 = .ok (.iinc 3 1, 3) := by decide +kernel
theorem dX6_apart_92 : decode cX6_apart 92 = .ok (.iinc 6 1, 3) := by decide +kernel
theorem dX6_apart_95 : decode cX6_apart 95 = .ok (.goto (-52), 3) := by decide +kernel
theorem dX6_apart_98 : decode cX6_apart 98 = .ok (.iinc 5 1, 3) := by decide +kernel
theorem dX6_apart_101 : decode cX6_apart 101 = .ok (.goto (-73), 3) := by decide +kernel
theorem dX6_apart_104 : decode cX6_apart 104 = .ok (.iload_n 2, 1) := by decide +kernel
theorem dX6_apart_105 : decode cX6_apart 105 = .ok (.ifCond .ne 7, 3) := by decide +kernel
theorem dX6_apart_108 : decode cX6_apart 108 = .ok (.iload_n 3, 1) := by decide +kernel
theorem dX6_apart_109 : decode cX6_apart 109 = .ok (.goto 5, 3) := by decide +kernel
theorem dX6_apart_112 : decode cX6_apart 112 = .ok (.iload 4, 2) := by decide +kernel
theorem dX6_apart_114 : decode cX6_apart 114 = .ok (.ireturn, 1) := by decide +kernel
theorem dX6_form_0 : decode cX6_form 0 = .ok (.aload_n 0, 1) := by decide +kernel
theorem dX6_form_1 : decode cX6_form 1 = .ok (.getfield 19, 3) := by decide +kernel
theorem dX6_form_4 : decode cX6_form 4 = .ok (.iload_n 1, 1) := by decide +kernel
theorem dX6_form_5 : decode cX6_form 5 = .ok (.iload_n 2, 1) := by decide +kernel
theorem dX6_form_6 : decode cX6_form 6 = .ok (.invokevirtual 144, 3) := by decide +kernel
theorem dX6_form_9 : decode cX6_form 9 = .ok (.ifCond .eq 15, 3) := by decide +kernel
theorem dX6_form_12 : decode cX6_form 12 = .ok (.aload_n 0, 1) := by decide +kernel
theorem dX6_form_13 : decode cX6_form 13 = .ok (.getfield 28, 3) := by decide +kernel
theorem dX6_form_16 : decode cX6_form 16 = .ok (.iload_n 1, 1) := by decide +kernel
theorem dX6_form_17 : decode cX6_form 17 = .ok (.iload_n 2, 1) := by decide +kernel
theorem dX6_form_18 : decode cX6_form 18 = .ok (.invokevirtual 162, 3) := by decide +kernel
theorem dX6_form_21 : decode cX6_form 21 = .ok (.goto 4, 3) := by decide +kernel
theorem dX6_form_24 : decode cX6_form 24 = .ok (.iconst (-1), 1) := by decide +kernel
theorem dX6_form_25 : decode cX6_form 25 = .ok (.ireturn, 1) := by decide +kernel
theorem dX6_swap_0 : decode cX6_swap 0 = .ok (.aload_n 0, 1) := by decide +kernel
theorem dX6_swap_1 : decode cX6_swap 1 = .ok (.getfield 28, 3) := by decide +kernel
theorem dX6_swap_4 : decode cX6_swap 4 = .ok (.iload_n 1, 1) := by decide +kernel
theorem dX6_swap_5 : decode cX6_swap 5 = .ok (.invokevirtual 131, 3) := by decide +kernel
theorem dX6_swap_8 : decode cX6_swap 8 = .ok (.ifCond .eq 14, 3) := by decide +kernel
theorem dX6_swap_11 : decode cX6_swap 11 = .ok (.aload_n 0, 1) := by decide +kernel
theorem dX6_swap_12 : decode cX6_swap 12 = .ok (.getfield 28, 3) := by decide +kernel
theorem dX6_swap_15 : decode cX6_swap 15 = .ok (.iload_n 2, 1) := by decide +kernel
theorem dX6_swap_16 : decode cX6_swap 16 = .ok (.invokevirtual 131, 3) := by decide +kernel
theorem dX6_swap_19 : decode cX6_swap 19 = .ok (.ifCond .ne 5, 3) := by decide +kernel
theorem dX6_swap_22 : decode cX6_swap 22 = .ok (.iconst (-1), 1) := by decide +kernel
theorem dX6_swap_23 : decode cX6_swap 23 = .ok (.ireturn, 1) := by decide +kernel
theorem dX6_swap_24 : decode cX6_swap 24 = .ok (.aload_n 0, 1) := by decide +kernel
theorem dX6_swap_25 : decode cX6_swap 25 = .ok (.getfield 28, 3) := by decide +kernel
theorem dX6_swap_28 : decode cX6_swap 28 = .ok (.iload_n 1, 1) := by decide +kernel
theorem dX6_swap_29 : decode cX6_swap 29 = .ok (.iload_n 2, 1) := by decide +kernel
theorem dX6_swap_30 : decode cX6_swap 30 = .ok (.invokevirtual 165, 3) := by decide +kernel
theorem dX6_swap_33 : decode cX6_swap 33 = .ok (.aload_n 0, 1) := by decide +kernel
theorem dX6_swap_34 : decode cX6_swap 34 = .ok (.getfield 46, 3) := by decide +kernel
theorem dX6_swap_37 : decode cX6_swap 37 = .ok (.iconst 1, 1) := by decide +kernel
theorem dX6_swap_38 : decode cX6_swap 38 = .ok (.iload_n 1, 1) := by decide +kernel
theorem dX6_swap_39 : decode cX6_swap 39 = .ok (.iload_n 2, 1) := by decide +kernel
theorem dX6_swap_40 : decode cX6_swap 40 = .ok (.iconst 0, 1) := by decide +kernel
theorem dX6_swap_41 : decode cX6_swap 41 = .ok (.invokevirtual 169, 3) := by decide +kernel
theorem dX6_swap_44 : decode cX6_swap 44 = .ok (.aload_n 0, 1) := by decide +kernel
theorem dX6_swap_45 : decode cX6_swap 45 = .ok (.getfield 28, 3) := by decide +kernel
theorem dX6_swap_48 : decode cX6_swap 48 = .ok (.aload_n 0, 1) := by decide +kernel
theorem dX6_swap_49 : decode cX6_swap 49 = .ok (.getfield 28, 3) := by decide +kernel
theorem dX6_swap_52 : decode cX6_swap 52 = .ok (.invokevirtual 100, 3) := by decide +kernel
theorem dX6_swap_55 : decode cX6_swap 55 = .ok (.invokevirtual 104, 3) := by decide +kernel
theorem dX6_swap_58 : decode cX6_swap 58 = .ok (.ireturn, 1) := by decide +kernel
theorem dX6_resign_0 : decode cX6_resign 0 = .ok (.aload_n 0, 1) := by decide +kernel
theorem dX6_resign_1 : decode cX6_resign 1 = .ok (.getfield 28, 3) := by decide +kernel
theorem dX6_resign_4 : decode cX6_resign 4 = .ok (.iload_n 1, 1) := by decide +kernel
theorem dX6_resign_5 : decode cX6_resign 5 = .ok (.invokevirtual 131, 3) := by decide +kernel
theorem dX6_resign_8 : decode cX6_resign 8 = .ok (.ifCond .ne 5, 3) := by decide +kernel
theorem dX6_resign_11 : decode cX6_resign 11 = .ok (.iconst (-1), 1) := by decide +kernel
theorem dX6_resign_12 : decode cX6_resign 12 = .ok (.ireturn, 1) := by decide +kernel
theorem dX6_resign_13 : decode cX6_resign 13 = .ok (.iload_n 2, 1) := by decide +kernel
theorem dX6_resign_14 : decode cX6_resign 14 = .ok (.iload_n 3, 1) := by decide +kernel
theorem dX6_resign_15 : decode cX6_resign 15 = .ok (.invokestatic 173, 3) := by decide +kernel
theorem dX6_resign_18 : decode cX6_resign 18 = .ok (.ifCond .ne 6, 3) := by decide +kernel
theorem dX6_resign_21 : decode cX6_resign 21 = .ok (.bipush (-2), 2) := by decide +kernel
theorem dX6_resign_23 : decode cX6_resign 23 = .ok (.ireturn, 1) := by decide +kernel
theorem dX6_resign_24 : decode cX6_resign 24 = .ok (.aload_n 0, 1) := by decide +kernel
theorem dX6_resign_25 : decode cX6_resign 25 = .ok (.getfield 28, 3) := by decide +kernel
theorem dX6_resign_28 : decode cX6_resign 28 = .ok (.iload_n 1, 1) := by decide +kernel
theorem dX6_resign_29 : decode cX6_resign 29 = .ok (.iload_n 2, 1) := by decide +kernel
theorem dX6_resign_30 : decode cX6_resign 30 = .ok (.invokevirtual 137, 3) := by decide +kernel
theorem dX6_resign_33 : decode cX6_resign 33 = .ok (.istore 4, 2) := by decide +kernel
theorem dX6_resign_35 : decode cX6_resign 35 = .ok (.aload_n 0, 1) := by decide +kernel
theorem dX6_resign_36 : decode cX6_resign 36 = .ok (.getfield 28, 3) := by decide +kernel
theorem dX6_resign_39 : decode cX6_resign 39 = .ok (.iload_n 1, 1) := by decide +kernel
theorem dX6_resign_40 : decode cX6_resign 40 = .ok (.iload_n 2, 1) := by decide +kernel
theorem dX6_resign_41 : decode cX6_resign 41 = .ok (.iload_n 3, 1) := by decide +kernel
theorem dX6_resign_42 : decode cX6_resign 42 = .ok (.invokevirtual 176, 3) := by decide +kernel
theorem dX6_resign_45 : decode cX6_resign 45 = .ok (.aload_n 0, 1) := by decide +kernel
theorem dX6_resign_46 : decode cX6_resign 46 = .ok (.getfield 46, 3) := by decide +kernel
theorem dX6_resign_49 : decode cX6_resign 49 = .ok (.iconst 2, 1) := by decide +kernel
theorem dX6_resign_50 : decode cX6_resign 50 = .ok (.iload_n 1, 1) := by decide +kernel
theorem dX6_resign_51 : decode cX6_resign 51 = .ok (.iload_n 2, 1) := by decide +kernel
theorem dX6_resign_52 : decode cX6_resign 52 = .ok (.iload 4, 2) := by decide +kernel
theorem dX6_resign_54 : decode cX6_resign 54 = .ok (.invokevirtual 169, 3) := by decide +kernel
theorem dX6_resign_57 : decode cX6_resign 57 = .ok (.iload 4, 2) := by decide +kernel
theorem dX6_resign_59 : decode cX6_resign 59 = .ok (.ireturn, 1) := by decide +kernel
theorem dX6_tell_0 : decode cX6_tell 0 = .ok (.aload_n 0, 1) := by decide +kernel
theorem dX6_tell_1 : decode cX6_tell 1 = .ok (.getfield 19, 3) := by decide +kernel
theorem dX6_tell_4 : decode cX6_tell 4 = .ok (.iload_n 1, 1) := by decide +kernel
theorem dX6_tell_5 : decode cX6_tell 5 = .ok (.iload_n 2, 1) := by decide +kernel
theorem dX6_tell_6 : decode cX6_tell 6 = .ok (.invokevirtual 144, 3) := by decide +kernel
theorem dX6_tell_9 : decode cX6_tell 9 = .ok (.ifCond .ne 5, 3) := by decide +kernel
theorem dX6_tell_12 : decode cX6_tell 12 = .ok (.iconst (-1), 1) := by decide +kernel
theorem dX6_tell_13 : decode cX6_tell 13 = .ok (.ireturn, 1) := by decide +kernel
theorem dX6_tell_14 : decode cX6_tell 14 = .ok (.iload_n 3, 1) := by decide +kernel
theorem dX6_tell_15 : decode cX6_tell 15 = .ok (.bipush (-9), 2) := by decide +kernel
theorem dX6_tell_17 : decode cX6_tell 17 = .ok (.if_icmp .eq 13, 3) := by decide +kernel
theorem dX6_tell_20 : decode cX6_tell 20 = .ok (.iload_n 3, 1) := by decide +kernel
theorem dX6_tell_21 : decode cX6_tell 21 = .ok (.invokestatic 157, 3) := by decide +kernel
theorem dX6_tell_24 : decode cX6_tell 24 = .ok (.ifCond .ne 6, 3) := by decide +kernel
theorem dX6_tell_27 : decode cX6_tell 27 = .ok (.bipush (-2), 2) := by decide +kernel
theorem dX6_tell_29 : decode cX6_tell 29 = .ok (.ireturn, 1) := by decide +kernel
theorem dX6_tell_30 : decode cX6_tell 30 = .ok (.aload_n 0, 1) := by decide +kernel
theorem dX6_tell_31 : decode cX6_tell 31 = .ok (.getfield 28, 3) := by decide +kernel
theorem dX6_tell_34 : decode cX6_tell 34 = .ok (.iload_n 1, 1) := by decide +kernel
theorem dX6_tell_35 : decode cX6_tell 35 = .ok (.iload_n 2, 1) := by decide +kernel
theorem dX6_tell_36 : decode cX6_tell 36 = .ok (.invokevirtual 162, 3) := by decide +kernel
theorem dX6_tell_39 : decode cX6_tell 39 = .ok (.istore 4, 2) := by decide +kernel
theorem dX6_tell_41 : decode cX6_tell 41 = .ok (.aload_n 0, 1) := by decide +kernel
theorem dX6_tell_42 : decode cX6_tell 42 = .ok (.getfield 28, 3) := by decide +kernel
theorem dX6_tell_45 : decode cX6_tell 45 = .ok (.iload_n 1, 1) := by decide +kernel
theorem dX6_tell_46 : decode cX6_tell 46 = .ok (.iload_n 2, 1) := by decide +kernel
theorem dX6_tell_47 : decode cX6_tell 47 = .ok (.iload_n 3, 1) := by decide +kernel
theorem dX6_tell_48 : decode cX6_tell 48 = .ok (.invokevirtual 180, 3) := by decide +kernel
theorem dX6_tell_51 : decode cX6_tell 51 = .ok (.aload_n 0, 1) := by decide +kernel
theorem dX6_tell_52 : decode cX6_tell 52 = .ok (.getfield 46, 3) := by decide +kernel
theorem dX6_tell_55 : decode cX6_tell 55 = .ok (.iconst 3, 1) := by decide +kernel
theorem dX6_tell_56 : decode cX6_tell 56 = .ok (.iload_n 1, 1) := by decide +kernel
theorem dX6_tell_57 : decode cX6_tell 57 = .ok (.iload_n 2, 1) := by decide +kernel
theorem dX6_tell_58 : decode cX6_tell 58 = .ok (.iload 4, 2) := by decide +kernel
theorem dX6_tell_60 : decode cX6_tell 60 = .ok (.invokevirtual 169, 3) := by decide +kernel
theorem dX6_tell_63 : decode cX6_tell 63 = .ok (.aload_n 0, 1) := by decide +kernel
theorem dX6_tell_64 : decode cX6_tell 64 = .ok (.getfield 28, 3) := by decide +kernel
theorem dX6_tell_67 : decode cX6_tell 67 = .ok (.invokevirtual 111, 3) := by decide +kernel
theorem dX6_tell_70 : decode cX6_tell 70 = .ok (.ireturn, 1) := by decide +kernel
theorem dX6_undo_0 : decode cX6_undo 0 = .ok (.aload_n 0, 1) := by decide +kernel
theorem dX6_undo_1 : decode cX6_undo 1 = .ok (.getfield 46, 3) := by decide +kernel
theorem dX6_undo_4 : decode cX6_undo 4 = .ok (.getfield 85, 3) := by decide +kernel
theorem dX6_undo_7 : decode cX6_undo 7 = .ok (.ifCond .ne 6, 3) := by decide +kernel
theorem dX6_undo_10 : decode cX6_undo 10 = .ok (.bipush (-3), 2) := by decide +kernel
theorem dX6_undo_12 : decode cX6_undo 12 = .ok (.ireturn, 1) := by decide +kernel
theorem dX6_undo_13 : decode cX6_undo 13 = .ok (.aload_n 0, 1) := by decide +kernel
theorem dX6_undo_14 : decode cX6_undo 14 = .ok (.getfield 46, 3) := by decide +kernel
theorem dX6_undo_17 : decode cX6_undo 17 = .ok (.aload_n 0, 1) := by decide +kernel
theorem dX6_undo_18 : decode cX6_undo 18 = .ok (.getfield 28, 3) := by decide +kernel
theorem dX6_undo_21 : decode cX6_undo 21 = .ok (.invokevirtual 183, 3) := by decide +kernel
theorem dX6_undo_24 : decode cX6_undo 24 = .ok (.aload_n 0, 1) := by decide +kernel
theorem dX6_undo_25 : decode cX6_undo 25 = .ok (.getfield 46, 3) := by decide +kernel
theorem dX6_undo_28 : decode cX6_undo 28 = .ok (.getfield 85, 3) := by decide +kernel
theorem dX6_undo_31 : decode cX6_undo 31 = .ok (.ireturn, 1) := by decide +kernel
theorem dX6_cross_0 : decode cX6_cross 0 = .ok (.aload_n 0, 1) := by decide +kernel
theorem dX6_cross_1 : decode cX6_cross 1 = .ok (.getfield 28, 3) := by decide +kernel
theorem dX6_cross_4 : decode cX6_cross 4 = .ok (.iload_n 1, 1) := by decide +kernel
theorem dX6_cross_5 : decode cX6_cross 5 = .ok (.invokevirtual 131, 3) := by decide +kernel
theorem dX6_cross_8 : decode cX6_cross 8 = .ok (.ifCond .eq 14, 3) := by decide +kernel
theorem dX6_cross_11 : decode cX6_cross 11 = .ok (.aload_n 0, 1) := by decide +kernel
theorem dX6_cross_12 : decode cX6_cross 12 = .ok (.getfield 28, 3) := by decide +kernel
theorem dX6_cross_15 : decode cX6_cross 15 = .ok (.iload_n 2, 1) := by decide +kernel
theorem dX6_cross_16 : decode cX6_cross 16 = .ok (.invokevirtual 131, 3) := by decide +kernel
theorem dX6_cross_19 : decode cX6_cross 19 = .ok (.ifCond .ne 5, 3) := by decide +kernel
theorem dX6_cross_22 : decode cX6_cross 22 = .ok (.iconst (-1), 1) := by decide +kernel
theorem dX6_cross_23 : decode cX6_cross 23 = .ok (.ireturn, 1) := by decide +kernel
theorem dX6_cross_24 : decode cX6_cross 24 = .ok (.aload_n 0, 1) := by decide +kernel
theorem dX6_cross_25 : decode cX6_cross 25 = .ok (.getfield 28, 3) := by decide +kernel
theorem dX6_cross_28 : decode cX6_cross 28 = .ok (.iload_n 1, 1) := by decide +kernel
theorem dX6_cross_29 : decode cX6_cross 29 = .ok (.iload_n 2, 1) := by decide +kernel
theorem dX6_cross_30 : decode cX6_cross 30 = .ok (.invokevirtual 187, 3) := by decide +kernel
theorem dX6_cross_33 : decode cX6_cross 33 = .ok (.ifCond .eq 7, 3) := by decide +kernel
theorem dX6_cross_36 : decode cX6_cross 36 = .ok (.iconst 1, 1) := by decide +kernel
theorem dX6_cross_37 : decode cX6_cross 37 = .ok (.goto 4, 3) := by decide +kernel
theorem dX6_cross_40 : decode cX6_cross 40 = .ok (.iconst 0, 1) := by decide +kernel
theorem dX6_cross_41 : decode cX6_cross 41 = .ok (.ireturn, 1) := by decide +kernel
theorem dX6_best_0 : decode cX6_best 0 = .ok (.iload_n 1, 1) := by decide +kernel
theorem dX6_best_1 : decode cX6_best 1 = .ok (.ifCond .lt 8, 3) := by decide +kernel
theorem dX6_best_4 : decode cX6_best 4 = .ok (.iload_n 1, 1) := by decide +kernel
theorem dX6_best_5 : decode cX6_best 5 = .ok (.iconst 2, 1) := by decide +kernel
theorem dX6_best_6 : decode cX6_best 6 = .ok (.if_icmp .le 6, 3) := by decide +kernel
theorem dX6_best_9 : decode cX6_best 9 = .ok (.bipush (-2), 2) := by decide +kernel
theorem dX6_best_11 : decode cX6_best 11 = .ok (.ireturn, 1) := by decide +kernel
theorem dX6_best_12 : decode cX6_best 12 = .ok (.aload_n 0, 1) := by decide +kernel
theorem dX6_best_13 : decode cX6_best 13 = .ok (.getfield 32, 3) := by decide +kernel
theorem dX6_best_16 : decode cX6_best 16 = .ok (.aload_n 0, 1) := by decide +kernel
theorem dX6_best_17 : decode cX6_best 17 = .ok (.getfield 28, 3) := by decide +kernel
theorem dX6_best_20 : decode cX6_best 20 = .ok (.invokevirtual 190, 3) := by decide +kernel
theorem dX6_best_23 : decode cX6_best 23 = .ok (.aload_n 0, 1) := by decide +kernel
theorem dX6_best_24 : decode cX6_best 24 = .ok (.getfield 32, 3) := by decide +kernel
theorem dX6_best_27 : decode cX6_best 27 = .ok (.invokevirtual 192, 3) := by decide +kernel
theorem dX6_best_30 : decode cX6_best 30 = .ok (.aload_n 0, 1) := by decide +kernel
theorem dX6_best_31 : decode cX6_best 31 = .ok (.getfield 32, 3) := by decide +kernel
theorem dX6_best_34 : decode cX6_best 34 = .ok (.invokevirtual 111, 3) := by decide +kernel
theorem dX6_best_37 : decode cX6_best 37 = .ok (.istore_n 2, 1) := by decide +kernel
theorem dX6_best_38 : decode cX6_best 38 = .ok (.aload_n 0, 1) := by decide +kernel
theorem dX6_best_39 : decode cX6_best 39 = .ok (.getfield 32, 3) := by decide +kernel
theorem dX6_best_42 : decode cX6_best 42 = .ok (.invokevirtual 195, 3) := by decide +kernel
theorem dX6_best_45 : decode cX6_best 45 = .ok (.istore_n 3, 1) := by decide +kernel
theorem dX6_best_46 : decode cX6_best 46 = .ok (.iconst 1, 1) := by decide +kernel
theorem dX6_best_47 : decode cX6_best 47 = .ok (.istore 4, 2) := by decide +kernel
theorem dX6_best_49 : decode cX6_best 49 = .ok (.iconst 1, 1) := by decide +kernel
theorem dX6_best_50 : decode cX6_best 50 = .ok (.istore 5, 2) := by decide +kernel
theorem dX6_best_52 : decode cX6_best 52 = .ok (.iload 5, 2) := by decide +kernel
theorem dX6_best_54 : decode cX6_best 54 = .ok (.bipush 24, 2) := by decide +kernel
theorem dX6_best_56 : decode cX6_best 56 = .ok (.if_icmp .ge 60, 3) := by decide +kernel
theorem dX6_best_59 : decode cX6_best 59 = .ok (.aload_n 0, 1) := by decide +kernel
theorem dX6_best_60 : decode cX6_best 60 = .ok (.getfield 32, 3) := by decide +kernel
theorem dX6_best_63 : decode cX6_best 63 = .ok (.invokevirtual 198, 3) := by decide +kernel
theorem dX6_best_66 : decode cX6_best 66 = .ok (.ifCond .eq 50, 3) := by decide +kernel
theorem dX6_best_69 : decode cX6_best 69 = .ok (.aload_n 0, 1) := by decide +kernel
theorem dX6_best_70 : decode cX6_best 70 = .ok (.getfield 32, 3) := by decide +kernel
theorem dX6_best_73 : decode cX6_best 73 = .ok (.invokevirtual 111, 3) := by decide +kernel
theorem dX6_best_76 : decode cX6_best 76 = .ok (.istore 6, 2) := by decide +kernel
theorem dX6_best_78 : decode cX6_best 78 = .ok (.iload 6, 2) := by decide +kernel
theorem dX6_best_80 : decode cX6_best 80 = .ok (.iload_n 2, 1) := by decide +kernel
theorem dX6_best_81 : decode cX6_best 81 = .ok (.if_icmp .ge 20, 3) := by decide +kernel
theorem dX6_best_84 : decode cX6_best 84 = .ok (.iload 6, 2) := by decide +kernel
theorem dX6_best_86 : decode cX6_best 86 = .ok (.istore_n 2, 1) := by decide +kernel
theorem dX6_best_87 : decode cX6_best 87 = .ok (.aload_n 0, 1) := by decide +kernel
theorem dX6_best_88 : decode cX6_best 88 = .ok (.getfield 32, 3) := by decide +kernel
theorem dX6_best_91 : decode cX6_best 91 = .ok (.invokevirtual 195, 3) := by decide +kernel
theorem dX6_best_94 : decode cX6_best 94 = .ok (.istore_n 3, 1) := by decide +kernel
theorem dX6_best_95 : decode cX6_best 95 = .ok (.iconst 1, 1) := by decide +kernel
theorem dX6_best_96 : decode cX6_best 96 = .ok (.istore 4, 2) := by decide +kernel
theorem dX6_best_98 : decode cX6_best 98 = .ok (.goto 12, 3) := by decide +kernel
theorem dX6_best_101 : decode cX6_best 101 = .ok (.iload 6, 2) := by decide +kernel
theorem dX6_best_103 : decode cX6_best 103 = .ok (.iload_n 2, 1) := by decide +kernel
theorem dX6_best_104 : decode cX6_best 104 = .ok (.if_icmp .ne 6, 3) := by decide +kernel
theorem dX6_best_107 : decode cX6_best 107 = .ok (.iinc 4 1, 3) := by decide +kernel
theorem dX6_best_110 : decode cX6_best 110 = .ok (.iinc 5 1, 3) := by decide +kernel
theorem dX6_best_113 : decode cX6_best 113 = .ok (.goto (-61), 3) := by decide +kernel
theorem dX6_best_116 : decode cX6_best 116 = .ok (.iload_n 1, 1) := by decide +kernel
theorem dX6_best_117 : decode cX6_best 117 = .ok (.ifCond .ne 7, 3) := by decide +kernel
theorem dX6_best_120 : decode cX6_best 120 = .ok (.iload_n 2, 1) := by decide +kernel
theorem dX6_best_121 : decode cX6_best 121 = .ok (.goto 14, 3) := by decide +kernel
theorem dX6_best_124 : decode cX6_best 124 = .ok (.iload_n 1, 1) := by decide +kernel
theorem dX6_best_125 : decode cX6_best 125 = .ok (.iconst 1, 1) := by decide +kernel
theorem dX6_best_126 : decode cX6_best 126 = .ok (.if_icmp .ne 7, 3) := by decide +kernel
theorem dX6_best_129 : decode cX6_best 129 = .ok (.iload_n 3, 1) := by decide +kernel
theorem dX6_best_130 : decode cX6_best 130 = .ok (.goto 5, 3) := by decide +kernel
theorem dX6_best_133 : decode cX6_best 133 = .ok (.iload 4, 2) := by decide +kernel
theorem dX6_best_135 : decode cX6_best 135 = .ok (.ireturn, 1) := by decide +kernel
theorem dX6_judge_0 : decode cX6_judge 0 = .ok (.iload_n 1, 1) := by decide +kernel
theorem dX6_judge_1 : decode cX6_judge 1 = .ok (.iconst 1, 1) := by decide +kernel
theorem dX6_judge_2 : decode cX6_judge 2 = .ok (.if_icmp .lt 24, 3) := by decide +kernel
theorem dX6_judge_5 : decode cX6_judge 5 = .ok (.iload_n 1, 1) := by decide +kernel
theorem dX6_judge_6 : decode cX6_judge 6 = .ok (.iconst 4, 1) := by decide +kernel
theorem dX6_judge_7 : decode cX6_judge 7 = .ok (.if_icmp .gt 19, 3) := by decide +kernel
theorem dX6_judge_10 : decode cX6_judge 10 = .ok (.lload_n 2, 1) := by decide +kernel
theorem dX6_judge_11 : decode cX6_judge 11 = .ok (.lconst 0, 1) := by decide +kernel
theorem dX6_judge_12 : decode cX6_judge 12 = .ok (.lcmp, 1) := by decide +kernel
theorem dX6_judge_13 : decode cX6_judge 13 = .ok (.ifCond .lt 13, 3) := by decide +kernel
theorem dX6_judge_16 : decode cX6_judge 16 = .ok (.lload_n 2, 1) := by decide +kernel
theorem dX6_judge_17 : decode cX6_judge 17 = .ok (.iload_n 1, 1) := by decide +kernel
theorem dX6_judge_18 : decode cX6_judge 18 = .ok (.invokestatic 202, 3) := by decide +kernel
theorem dX6_judge_21 : decode cX6_judge 21 = .ok (.lconst 0, 1) := by decide +kernel
theorem dX6_judge_22 : decode cX6_judge 22 = .ok (.lcmp, 1) := by decide +kernel
theorem dX6_judge_23 : decode cX6_judge 23 = .ok (.ifCond .eq 6, 3) := by decide +kernel
theorem dX6_judge_26 : decode cX6_judge 26 = .ok (.bipush (-2), 2) := by decide +kernel
theorem dX6_judge_28 : decode cX6_judge 28 = .ok (.ireturn, 1) := by decide +kernel
theorem dX6_judge_29 : decode cX6_judge 29 = .ok (.aload_n 0, 1) := by decide +kernel
theorem dX6_judge_30 : decode cX6_judge 30 = .ok (.getfield 32, 3) := by decide +kernel
theorem dX6_judge_33 : decode cX6_judge 33 = .ok (.aload_n 0, 1) := by decide +kernel
theorem dX6_judge_34 : decode cX6_judge 34 = .ok (.getfield 28, 3) := by decide +kernel
theorem dX6_judge_37 : decode cX6_judge 37 = .ok (.invokevirtual 190, 3) := by decide +kernel
theorem dX6_judge_40 : decode cX6_judge 40 = .ok (.iconst 0, 1) := by decide +kernel
theorem dX6_judge_41 : decode cX6_judge 41 = .ok (.istore 4, 2) := by decide +kernel
theorem dX6_judge_43 : decode cX6_judge 43 = .ok (.iload 4, 2) := by decide +kernel
theorem dX6_judge_45 : decode cX6_judge 45 = .ok (.iload_n 1, 1) := by decide +kernel
theorem dX6_judge_46 : decode cX6_judge 46 = .ok (.if_icmp .ge 63, 3) := by decide +kernel
theorem dX6_judge_49 : decode cX6_judge 49 = .ok (.lload_n 2, 1) := by decide +kernel
theorem dX6_judge_50 : decode cX6_judge 50 = .ok (.iload_n 1, 1) := by decide +kernel
theorem dX6_judge_51 : decode cX6_judge 51 = .ok (.iconst 1, 1) := by decide +kernel
theorem dX6_judge_52 : decode cX6_judge 52 = .ok (.isub, 1) := by decide +kernel
theorem dX6_judge_53 : decode cX6_judge 53 = .ok (.iload 4, 2) := by decide +kernel
theorem dX6_judge_55 : decode cX6_judge 55 = .ok (.isub, 1) := by decide +kernel
theorem dX6_judge_56 : decode cX6_judge 56 = .ok (.invokestatic 202, 3) := by decide +kernel
theorem dX6_judge_59 : decode cX6_judge 59 = .ok (.ldc2_w 206, 3) := by decide +kernel
theorem dX6_judge_62 : decode cX6_judge 62 = .ok (.lrem, 1) := by decide +kernel
theorem dX6_judge_63 : decode cX6_judge 63 = .ok (.l2i, 1) := by decide +kernel
theorem dX6_judge_64 : decode cX6_judge 64 = .ok (.istore 5, 2) := by decide +kernel
theorem dX6_judge_66 : decode cX6_judge 66 = .ok (.aload_n 0, 1) := by decide +kernel
theorem dX6_judge_67 : decode cX6_judge 67 = .ok (.iload 5, 2) := by decide +kernel
theorem dX6_judge_69 : decode cX6_judge 69 = .ok (.sipush 1000, 3) := by decide +kernel
theorem dX6_judge_72 : decode cX6_judge 72 = .ok (.idiv, 1) := by decide +kernel
theorem dX6_judge_73 : decode cX6_judge 73 = .ok (.iload 5, 2) := by decide +kernel
theorem dX6_judge_75 : decode cX6_judge 75 = .ok (.bipush 100, 2) := by decide +kernel
theorem dX6_judge_77 : decode cX6_judge 77 = .ok (.idiv, 1) := by decide +kernel
theorem dX6_judge_78 : decode cX6_judge 78 = .ok (.bipush 10, 2) := by decide +kernel
theorem dX6_judge_80 : decode cX6_judge 80 = .ok (.irem, 1) := by decide +kernel
theorem dX6_judge_81 : decode cX6_judge 81 = .ok (.iload 5, 2) := by decide +kernel
theorem dX6_judge_83 : decode cX6_judge 83 = .ok (.bipush 10, 2) := by decide +kernel
theorem dX6_judge_85 : decode cX6_judge 85 = .ok (.idiv, 1) := by decide +kernel
theorem dX6_judge_86 : decode cX6_judge 86 = .ok (.bipush 10, 2) := by decide +kernel
theorem dX6_judge_88 : decode cX6_judge 88 = .ok (.irem, 1) := by decide +kernel
theorem dX6_judge_89 : decode cX6_judge 89 = .ok (.iload 5, 2) := by decide +kernel
theorem dX6_judge_91 : decode cX6_judge 91 = .ok (.bipush 10, 2) := by decide +kernel
theorem dX6_judge_93 : decode cX6_judge 93 = .ok (.irem, 1) := by decide +kernel
theorem dX6_judge_94 : decode cX6_judge 94 = .ok (.invokevirtual 208, 3) := by decide +kernel
theorem dX6_judge_97 : decode cX6_judge 97 = .ok (.ifCond .ne 6, 3) := by decide +kernel
theorem dX6_judge_100 : decode cX6_judge 100 = .ok (.iload 4, 2) := by decide +kernel
theorem dX6_judge_102 : decode cX6_judge 102 = .ok (.ireturn, 1) := by decide +kernel
theorem dX6_judge_103 : decode cX6_judge 103 = .ok (.iinc 4 1, 3) := by decide +kernel
theorem dX6_judge_106 : decode cX6_judge 106 = .ok (.goto (-63), 3) := by decide +kernel
theorem dX6_judge_109 : decode cX6_judge 109 = .ok (.bipush (-9), 2) := by decide +kernel
theorem dX6_judge_111 : decode cX6_judge 111 = .ok (.ireturn, 1) := by decide +kernel
theorem dX6_share_0 : decode cX6_share 0 = .ok (.aload_n 0, 1) := by decide +kernel
theorem dX6_share_1 : decode cX6_share 1 = .ok (.getfield 28, 3) := by decide +kernel
theorem dX6_share_4 : decode cX6_share 4 = .ok (.iload_n 1, 1) := by decide +kernel
theorem dX6_share_5 : decode cX6_share 5 = .ok (.invokevirtual 131, 3) := by decide +kernel
theorem dX6_share_8 : decode cX6_share 8 = .ok (.ifCond .ne 5, 3) := by decide +kernel
theorem dX6_share_11 : decode cX6_share 11 = .ok (.iconst (-1), 1) := by decide +kernel
theorem dX6_share_12 : decode cX6_share 12 = .ok (.ireturn, 1) := by decide +kernel
theorem dX6_share_13 : decode cX6_share 13 = .ok (.aload_n 0, 1) := by decide +kernel
theorem dX6_share_14 : decode cX6_share 14 = .ok (.getfield 28, 3) := by decide +kernel
theorem dX6_share_17 : decode cX6_share 17 = .ok (.getfield 97, 3) := by decide +kernel
theorem dX6_share_20 : decode cX6_share 20 = .ok (.istore_n 3, 1) := by decide +kernel
theorem dX6_share_21 : decode cX6_share 21 = .ok (.iconst 0, 1) := by decide +kernel
theorem dX6_share_22 : decode cX6_share 22 = .ok (.istore 4, 2) := by decide +kernel
theorem dX6_share_24 : decode cX6_share 24 = .ok (.iconst 0, 1) := by decide +kernel
theorem dX6_share_25 : decode cX6_share 25 = .ok (.istore 5, 2) := by decide +kernel
theorem dX6_share_27 : decode cX6_share 27 = .ok (.iload 5, 2) := by decide +kernel
theorem dX6_share_29 : decode cX6_share 29 = .ok (.aload_n 0, 1) := by decide +kernel
theorem dX6_share_30 : decode cX6_share 30 = .ok (.getfield 28, 3) := by decide +kernel
theorem dX6_share_33 : decode cX6_share 33 = .ok (.invokevirtual 100, 3) := by decide +kernel
theorem dX6_share_36 : decode cX6_share 36 = .ok (.if_icmp .gt 75, 3) := by decide +kernel
theorem dX6_share_39 : decode cX6_share 39 = .ok (.iload 5, 2) := by decide +kernel
theorem dX6_share_41 : decode cX6_share 41 = .ok (.iconst 1, 1) := by decide +kernel
theorem dX6_share_42 : decode cX6_share 42 = .ok (.iload_n 1, 1) := by decide +kernel
theorem dX6_share_43 : decode cX6_share 43 = .ok (.ishl, 1) := by decide +kernel
theorem dX6_share_44 : decode cX6_share 44 = .ok (.iand, 1) := by decide +kernel
theorem dX6_share_45 : decode cX6_share 45 = .ok (.ifCond .ne 60, 3) := by decide +kernel
theorem dX6_share_48 : decode cX6_share 48 = .ok (.iload 5, 2) := by decide +kernel
theorem dX6_share_50 : decode cX6_share 50 = .ok (.invokestatic 212, 3) := by decide +kernel
theorem dX6_share_53 : decode cX6_share 53 = .ok (.istore 6, 2) := by decide +kernel
theorem dX6_share_55 : decode cX6_share 55 = .ok (.getstatic 217, 3) := by decide +kernel
theorem dX6_share_58 : decode cX6_share 58 = .ok (.iload 6, 2) := by decide +kernel
theorem dX6_share_60 : decode cX6_share 60 = .ok (.iaload, 1) := by decide +kernel
theorem dX6_share_61 : decode cX6_share 61 = .ok (.getstatic 217, 3) := by decide +kernel
theorem dX6_share_64 : decode cX6_share 64 = .ok (.iload_n 3, 1) := by decide +kernel
theorem dX6_share_65 : decode cX6_share 65 = .ok (.iconst 1, 1) := by decide +kernel
theorem dX6_share_66 : decode cX6_share 66 = .ok (.isub, 1) := by decide +kernel
theorem dX6_share_67 : decode cX6_share 67 = .ok (.iload 6, 2) := by decide +kernel
theorem dX6_share_69 : decode cX6_share 69 = .ok (.isub, 1) := by decide +kernel
theorem dX6_share_70 : decode cX6_share 70 = .ok (.iaload, 1) := by decide +kernel
theorem dX6_share_71 : decode cX6_share 71 = .ok (.imul, 1) := by decide +kernel
theorem dX6_share_72 : decode cX6_share 72 = .ok (.istore 7, 2) := by decide +kernel
theorem dX6_share_74 : decode cX6_share 74 = .ok (.iload 4, 2) := by decide +kernel
theorem dX6_share_76 : decode cX6_share 76 = .ok (.iload 7, 2) := by decide +kernel
theorem dX6_share_78 : decode cX6_share 78 = .ok (.aload_n 0, 1) := by decide +kernel
theorem dX6_share_79 : decode cX6_share 79 = .ok (.getfield 28, 3) := by decide +kernel
theorem dX6_share_82 : decode cX6_share 82 = .ok (.iload 5, 2) := by decide +kernel
theorem dX6_share_84 : decode cX6_share 84 = .ok (.iconst 1, 1) := by decide +kernel
theorem dX6_share_85 : decode cX6_share 85 = .ok (.iload_n 1, 1) := by decide +kernel
theorem dX6_share_86 : decode cX6_share 86 = .ok (.ishl, 1) := by decide +kernel
theorem dX6_share_87 : decode cX6_share 87 = .ok (.ior, 1) := by decide +kernel
theorem dX6_share_88 : decode cX6_share 88 = .ok (.invokevirtual 104, 3) := by decide +kernel
theorem dX6_share_91 : decode cX6_share 91 = .ok (.aload_n 0, 1) := by decide +kernel
theorem dX6_share_92 : decode cX6_share 92 = .ok (.getfield 28, 3) := by decide +kernel
theorem dX6_share_95 : decode cX6_share 95 = .ok (.iload 5, 2) := by decide +kernel
theorem dX6_share_97 : decode cX6_share 97 = .ok (.invokevirtual 104, 3) := by decide +kernel
theorem dX6_share_100 : decode cX6_share 100 = .ok (.isub, 1) := by decide +kernel
theorem dX6_share_101 : decode cX6_share 101 = .ok (.imul, 1) := by decide +kernel
theorem dX6_share_102 : decode cX6_share 102 = .ok (.iadd, 1) := by decide +kernel
theorem dX6_share_103 : decode cX6_share 103 = .ok (.istore 4, 2) := by decide +kernel
theorem dX6_share_105 : decode cX6_share 105 = .ok (.iinc 5 1, 3) := by decide +kernel
theorem dX6_share_108 : decode cX6_share 108 = .ok (.goto (-81), 3) := by decide +kernel
theorem dX6_share_111 : decode cX6_share 111 = .ok (.iload 4, 2) := by decide +kernel
theorem dX6_share_113 : decode cX6_share 113 = .ok (.getstatic 217, 3) := by decide +kernel
theorem dX6_share_116 : decode cX6_share 116 = .ok (.iload_n 3, 1) := by decide +kernel
theorem dX6_share_117 : decode cX6_share 117 = .ok (.iaload, 1) := by decide +kernel
theorem dX6_share_118 : decode cX6_share 118 = .ok (.iload_n 2, 1) := by decide +kernel
theorem dX6_share_119 : decode cX6_share 119 = .ok (.invokestatic 220, 3) := by decide +kernel
theorem dX6_share_122 : decode cX6_share 122 = .ok (.ireturn, 1) := by decide +kernel
theorem dX6_see_0 : decode cX6_see 0 = .ok (.aload_n 0, 1) := by decide +kernel
theorem dX6_see_1 : decode cX6_see 1 = .ok (.getfield 19, 3) := by decide +kernel
theorem dX6_see_4 : decode cX6_see 4 = .ok (.iload_n 1, 1) := by decide +kernel
theorem dX6_see_5 : decode cX6_see 5 = .ok (.invokevirtual 125, 3) := by decide +kernel
theorem dX6_see_8 : decode cX6_see 8 = .ok (.ifCond .ne 5, 3) := by decide +kernel
theorem dX6_see_11 : decode cX6_see 11 = .ok (.iconst (-1), 1) := by decide +kernel
theorem dX6_see_12 : decode cX6_see 12 = .ok (.ireturn, 1) := by decide +kernel
theorem dX6_see_13 : decode cX6_see 13 = .ok (.iload_n 2, 1) := by decide +kernel
theorem dX6_see_14 : decode cX6_see 14 = .ok (.ifCond .lt 29, 3) := by decide +kernel
theorem dX6_see_17 : decode cX6_see 17 = .ok (.iload_n 2, 1) := by decide +kernel
theorem dX6_see_18 : decode cX6_see 18 = .ok (.iconst 4, 1) := by decide +kernel
theorem dX6_see_19 : decode cX6_see 19 = .ok (.if_icmp .gt 24, 3) := by decide +kernel
theorem dX6_see_22 : decode cX6_see 22 = .ok (.iload_n 3, 1) := by decide +kernel
theorem dX6_see_23 : decode cX6_see 23 = .ok (.iconst 1, 1) := by decide +kernel
theorem dX6_see_24 : decode cX6_see 24 = .ok (.if_icmp .lt 19, 3) := by decide +kernel
theorem dX6_see_27 : decode cX6_see 27 = .ok (.iload_n 3, 1) := by decide +kernel
theorem dX6_see_28 : decode cX6_see 28 = .ok (.iconst 5, 1) := by decide +kernel
theorem dX6_see_29 : decode cX6_see 29 = .ok (.if_icmp .gt 14, 3) := by decide +kernel
theorem dX6_see_32 : decode cX6_see 32 = .ok (.iload 4, 2) := by decide +kernel
theorem dX6_see_34 : decode cX6_see 34 = .ok (.ifCond .lt 9, 3) := by decide +kernel
theorem dX6_see_37 : decode cX6_see 37 = .ok (.iload 4, 2) := by decide +kernel
theorem dX6_see_39 : decode cX6_see 39 = .ok (.iconst 1, 1) := by decide +kernel
theorem dX6_see_40 : decode cX6_see 40 = .ok (.if_icmp .le 6, 3) := by decide +kernel
theorem dX6_see_43 : decode cX6_see 43 = .ok (.bipush (-2), 2) := by decide +kernel
theorem dX6_see_45 : decode cX6_see 45 = .ok (.ireturn, 1) := by decide +kernel
theorem dX6_see_46 : decode cX6_see 46 = .ok (.aload_n 0, 1) := by decide +kernel
theorem dX6_see_47 : decode cX6_see 47 = .ok (.getfield 53, 3) := by decide +kernel
theorem dX6_see_50 : decode cX6_see 50 = .ok (.iload_n 1, 1) := by decide +kernel
theorem dX6_see_51 : decode cX6_see 51 = .ok (.iload_n 2, 1) := by decide +kernel
theorem dX6_see_52 : decode cX6_see 52 = .ok (.iload_n 3, 1) := by decide +kernel
theorem dX6_see_53 : decode cX6_see 53 = .ok (.iload 4, 2) := by decide +kernel
theorem dX6_see_55 : decode cX6_see 55 = .ok (.iconst 1, 1) := by decide +kernel
theorem dX6_see_56 : decode cX6_see 56 = .ok (.if_icmp .ne 7, 3) := by decide +kernel
theorem dX6_see_59 : decode cX6_see 59 = .ok (.iconst 1, 1) := by decide +kernel
theorem dX6_see_60 : decode cX6_see 60 = .ok (.goto 4, 3) := by decide +kernel
theorem dX6_see_63 : decode cX6_see 63 = .ok (.iconst 0, 1) := by decide +kernel
theorem dX6_see_64 : decode cX6_see 64 = .ok (.invokevirtual 224, 3) := by decide +kernel
theorem dX6_see_67 : decode cX6_see 67 = .ok (.ifCond .eq 13, 3) := by decide +kernel
theorem dX6_see_70 : decode cX6_see 70 = .ok (.aload_n 0, 1) := by decide +kernel
theorem dX6_see_71 : decode cX6_see 71 = .ok (.getfield 53, 3) := by decide +kernel
theorem dX6_see_74 : decode cX6_see 74 = .ok (.getfield 117, 3) := by decide +kernel
theorem dX6_see_77 : decode cX6_see 77 = .ok (.goto 5, 3) := by decide +kernel
theorem dX6_see_80 : decode cX6_see 80 = .ok (.bipush (-4), 2) := by decide +kernel
theorem dX6_see_82 : decode cX6_see 82 = .ok (.ireturn, 1) := by decide +kernel
theorem dX6_unsee_0 : decode cX6_unsee 0 = .ok (.aload_n 0, 1) := by decide +kernel
theorem dX6_unsee_1 : decode cX6_unsee 1 = .ok (.getfield 53, 3) := by decide +kernel
theorem dX6_unsee_4 : decode cX6_unsee 4 = .ok (.getfield 117, 3) := by decide +kernel
theorem dX6_unsee_7 : decode cX6_unsee 7 = .ok (.istore_n 1, 1) := by decide +kernel
theorem dX6_unsee_8 : decode cX6_unsee 8 = .ok (.aload_n 0, 1) := by decide +kernel
theorem dX6_unsee_9 : decode cX6_unsee 9 = .ok (.getfield 53, 3) := by decide +kernel
theorem dX6_unsee_12 : decode cX6_unsee 12 = .ok (.iconst 0, 1) := by decide +kernel
theorem dX6_unsee_13 : decode cX6_unsee 13 = .ok (.putfield 117, 3) := by decide +kernel
theorem dX6_unsee_16 : decode cX6_unsee 16 = .ok (.iload_n 1, 1) := by decide +kernel
theorem dX6_unsee_17 : decode cX6_unsee 17 = .ok (.ireturn, 1) := by decide +kernel
theorem dX6_which_0 : decode cX6_which 0 = .ok (.iload_n 1, 1) := by decide +kernel
theorem dX6_which_1 : decode cX6_which 1 = .ok (.ifCond .eq 11, 3) := by decide +kernel
theorem dX6_which_4 : decode cX6_which 4 = .ok (.iload_n 1, 1) := by decide +kernel
theorem dX6_which_5 : decode cX6_which 5 = .ok (.iconst 1, 1) := by decide +kernel
theorem dX6_which_6 : decode cX6_which 6 = .ok (.if_icmp .eq 6, 3) := by decide +kernel
theorem dX6_which_9 : decode cX6_which 9 = .ok (.bipush (-2), 2) := by decide +kernel
theorem dX6_which_11 : decode cX6_which 11 = .ok (.ireturn, 1) := by decide +kernel
theorem dX6_which_12 : decode cX6_which 12 = .ok (.iconst 0, 1) := by decide +kernel
theorem dX6_which_13 : decode cX6_which 13 = .ok (.istore_n 2, 1) := by decide +kernel
theorem dX6_which_14 : decode cX6_which 14 = .ok (.bipush (-9), 2) := by decide +kernel
theorem dX6_which_16 : decode cX6_which 16 = .ok (.istore_n 3, 1) := by decide +kernel
theorem dX6_which_17 : decode cX6_which 17 = .ok (.iconst 0, 1) := by decide +kernel
theorem dX6_which_18 : decode cX6_which 18 = .ok (.istore 4, 2) := by decide +kernel
theorem dX6_which_20 : decode cX6_which 20 = .ok (.iload 4, 2) := by decide +kernel
theorem dX6_which_22 : decode cX6_which 22 = .ok (.bipush 125, 2) := by decide +kernel
theorem dX6_which_24 : decode cX6_which 24 = .ok (.if_icmp .ge 71, 3) := by decide +kernel
theorem dX6_which_27 : decode cX6_which 27 = .ok (.bipush 111, 2) := by decide +kernel
theorem dX6_which_29 : decode cX6_which 29 = .ok (.bipush 100, 2) := by decide +kernel
theorem dX6_which_31 : decode cX6_which 31 = .ok (.iload 4, 2) := by decide +kernel
theorem dX6_which_33 : decode cX6_which 33 = .ok (.bipush 25, 2) := by decide +kernel
theorem dX6_which_35 : decode cX6_which 35 = .ok (.idiv, 1) := by decide +kernel
theorem dX6_which_36 : decode cX6_which 36 = .ok (.imul, 1) := by decide +kernel
theorem dX6_which_37 : decode cX6_which 37 = .ok (.iadd, 1) := by decide +kernel
theorem dX6_which_38 : decode cX6_which 38 = .ok (.bipush 10, 2) := by decide +kernel
theorem dX6_which_40 : decode cX6_which 40 = .ok (.iload 4, 2) := by decide +kernel
theorem dX6_which_42 : decode cX6_which 42 = .ok (.iconst 5, 1) := by decide +kernel
theorem dX6_which_43 : decode cX6_which 43 = .ok (.idiv, 1) := by decide +kernel
theorem dX6_which_44 : decode cX6_which 44 = .ok (.iconst 5, 1) := by decide +kernel
theorem dX6_which_45 : decode cX6_which 45 = .ok (.irem, 1) := by decide +kernel
theorem dX6_which_46 : decode cX6_which 46 = .ok (.imul, 1) := by decide +kernel
theorem dX6_which_47 : decode cX6_which 47 = .ok (.iadd, 1) := by decide +kernel
theorem dX6_which_48 : decode cX6_which 48 = .ok (.iload 4, 2) := by decide +kernel
theorem dX6_which_50 : decode cX6_which 50 = .ok (.iconst 5, 1) := by decide +kernel
theorem dX6_which_51 : decode cX6_which 51 = .ok (.irem, 1) := by decide +kernel
theorem dX6_which_52 : decode cX6_which 52 = .ok (.iadd, 1) := by decide +kernel
theorem dX6_which_53 : decode cX6_which 53 = .ok (.istore 5, 2) := by decide +kernel
theorem dX6_which_55 : decode cX6_which 55 = .ok (.aload_n 0, 1) := by decide +kernel
theorem dX6_which_56 : decode cX6_which 56 = .ok (.getfield 53, 3) := by decide +kernel
theorem dX6_which_59 : decode cX6_which 59 = .ok (.iload 5, 2) := by decide +kernel
theorem dX6_which_61 : decode cX6_which 61 = .ok (.aload_n 0, 1) := by decide +kernel
theorem dX6_which_62 : decode cX6_which 62 = .ok (.getfield 19, 3) := by decide +kernel
theorem dX6_which_65 : decode cX6_which 65 = .ok (.aload_n 0, 1) := by decide +kernel
theorem dX6_which_66 : decode cX6_which 66 = .ok (.getfield 28, 3) := by decide +kernel
theorem dX6_which_69 : decode cX6_which 69 = .ok (.invokevirtual 227, 3) := by decide +kernel
theorem dX6_which_72 : decode cX6_which 72 = .ok (.ifCond .eq 17, 3) := by decide +kernel
theorem dX6_which_75 : decode cX6_which 75 = .ok (.iload_n 2, 1) := by decide +kernel
theorem dX6_which_76 : decode cX6_which 76 = .ok (.ifCond .ne 8, 3) := by decide +kernel
theorem dX6_which_79 : decode cX6_which 79 = .ok (.iload 5, 2) := by decide +kernel
theorem dX6_which_81 : decode cX6_which 81 = .ok (.goto 4, 3) := by decide +kernel
theorem dX6_which_84 : decode cX6_which 84 = .ok (.iload_n 3, 1) := by decide +kernel
theorem dX6_which_85 : decode cX6_which 85 = .ok (.istore_n 3, 1) := by decide +kernel
theorem dX6_which_86 : decode cX6_which 86 = .ok (.iinc 2 1, 3) := by decide +kernel
theorem dX6_which_89 : decode cX6_which 89 = .ok (.iinc 4 1, 3) := by decide +kernel
theorem dX6_which_92 : decode cX6_which 92 = .ok (.goto (-72), 3) := by decide +kernel
theorem dX6_which_95 : decode cX6_which 95 = .ok (.iload_n 1, 1) := by decide +kernel
theorem dX6_which_96 : decode cX6_which 96 = .ok (.ifCond .ne 7, 3) := by decide +kernel
theorem dX6_which_99 : decode cX6_which 99 = .ok (.iload_n 2, 1) := by decide +kernel
theorem dX6_which_100 : decode cX6_which 100 = .ok (.goto 4, 3) := by decide +kernel
theorem dX6_which_103 : decode cX6_which 103 = .ok (.iload_n 3, 1) := by decide +kernel
theorem dX6_which_104 : decode cX6_which 104 = .ok (.ireturn, 1) := by decide +kernel
theorem dX6_fails_0 : decode cX6_fails 0 = .ok (.aload_n 0, 1) := by decide +kernel
theorem dX6_fails_1 : decode cX6_fails 1 = .ok (.getfield 19, 3) := by decide +kernel
theorem dX6_fails_4 : decode cX6_fails 4 = .ok (.iload_n 1, 1) := by decide +kernel
theorem dX6_fails_5 : decode cX6_fails 5 = .ok (.iload_n 2, 1) := by decide +kernel
theorem dX6_fails_6 : decode cX6_fails 6 = .ok (.invokevirtual 144, 3) := by decide +kernel
theorem dX6_fails_9 : decode cX6_fails 9 = .ok (.ifCond .ne 5, 3) := by decide +kernel
theorem dX6_fails_12 : decode cX6_fails 12 = .ok (.iconst (-1), 1) := by decide +kernel
theorem dX6_fails_13 : decode cX6_fails 13 = .ok (.ireturn, 1) := by decide +kernel
theorem dX6_fails_14 : decode cX6_fails 14 = .ok (.iload_n 3, 1) := by decide +kernel
theorem dX6_fails_15 : decode cX6_fails 15 = .ok (.ifCond .lt 9, 3) := by decide +kernel
theorem dX6_fails_18 : decode cX6_fails 18 = .ok (.iload_n 3, 1) := by decide +kernel
theorem dX6_fails_19 : decode cX6_fails 19 = .ok (.bipush 10, 2) := by decide +kernel
theorem dX6_fails_21 : decode cX6_fails 21 = .ok (.if_icmp .le 6, 3) := by decide +kernel
theorem dX6_fails_24 : decode cX6_fails 24 = .ok (.bipush (-2), 2) := by decide +kernel
theorem dX6_fails_26 : decode cX6_fails 26 = .ok (.ireturn, 1) := by decide +kernel
theorem dX6_fails_27 : decode cX6_fails 27 = .ok (.aload_n 0, 1) := by decide +kernel
theorem dX6_fails_28 : decode cX6_fails 28 = .ok (.getfield 19, 3) := by decide +kernel
theorem dX6_fails_31 : decode cX6_fails 31 = .ok (.iload_n 1, 1) := by decide +kernel
theorem dX6_fails_32 : decode cX6_fails 32 = .ok (.iload_n 2, 1) := by decide +kernel
theorem dX6_fails_33 : decode cX6_fails 33 = .ok (.invokevirtual 151, 3) := by decide +kernel
theorem dX6_fails_36 : decode cX6_fails 36 = .ok (.istore 5, 2) := by decide +kernel
theorem dX6_fails_38 : decode cX6_fails 38 = .ok (.aload_n 0, 1) := by decide +kernel
theorem dX6_fails_39 : decode cX6_fails 39 = .ok (.getfield 28, 3) := by decide +kernel
theorem dX6_fails_42 : decode cX6_fails 42 = .ok (.iload_n 1, 1) := by decide +kernel
theorem dX6_fails_43 : decode cX6_fails 43 = .ok (.iload_n 2, 1) := by decide +kernel
theorem dX6_fails_44 : decode cX6_fails 44 = .ok (.invokevirtual 148, 3) := by decide +kernel
theorem dX6_fails_47 : decode cX6_fails 47 = .ok (.istore 6, 2) := by decide +kernel
theorem dX6_fails_49 : decode cX6_fails 49 = .ok (.iconst 0, 1) := by decide +kernel
theorem dX6_fails_50 : decode cX6_fails 50 = .ok (.istore 7, 2) := by decide +kernel
theorem dX6_fails_52 : decode cX6_fails 52 = .ok (.iconst 0, 1) := by decide +kernel
theorem dX6_fails_53 : decode cX6_fails 53 = .ok (.istore 8, 2) := by decide +kernel
theorem dX6_fails_55 : decode cX6_fails 55 = .ok (.iload 8, 2) := by decide +kernel
theorem dX6_fails_57 : decode cX6_fails 57 = .ok (.aload_n 0, 1) := by decide +kernel
theorem dX6_fails_58 : decode cX6_fails 58 = .ok (.getfield 28, 3) := by decide +kernel
theorem dX6_fails_61 : decode cX6_fails 61 = .ok (.invokevirtual 100, 3) := by decide +kernel
theorem dX6_fails_64 : decode cX6_fails 64 = .ok (.if_icmp .gt 61, 3) := by decide +kernel
theorem dX6_fails_67 : decode cX6_fails 67 = .ok (.aload_n 0, 1) := by decide +kernel
theorem dX6_fails_68 : decode cX6_fails 68 = .ok (.getfield 28, 3) := by decide +kernel
theorem dX6_fails_71 : decode cX6_fails 71 = .ok (.iload 5, 2) := by decide +kernel
theorem dX6_fails_73 : decode cX6_fails 73 = .ok (.iload 8, 2) := by decide +kernel
theorem dX6_fails_75 : decode cX6_fails 75 = .ok (.invokevirtual 231, 3) := by decide +kernel
theorem dX6_fails_78 : decode cX6_fails 78 = .ok (.iload 6, 2) := by decide +kernel
theorem dX6_fails_80 : decode cX6_fails 80 = .ok (.if_icmp .ne 39, 3) := by decide +kernel
theorem dX6_fails_83 : decode cX6_fails 83 = .ok (.iload 8, 2) := by decide +kernel
theorem dX6_fails_85 : decode cX6_fails 85 = .ok (.invokestatic 212, 3) := by decide +kernel
theorem dX6_fails_88 : decode cX6_fails 88 = .ok (.istore 9, 2) := by decide +kernel
theorem dX6_fails_90 : decode cX6_fails 90 = .ok (.iload 7, 2) := by decide +kernel
theorem dX6_fails_92 : decode cX6_fails 92 = .ok (.bipush 10, 2) := by decide +kernel
theorem dX6_fails_94 : decode cX6_fails 94 = .ok (.iload_n 3, 1) := by decide +kernel
theorem dX6_fails_95 : decode cX6_fails 95 = .ok (.isub, 1) := by decide +kernel
theorem dX6_fails_96 : decode cX6_fails 96 = .ok (.iload 9, 2) := by decide +kernel
theorem dX6_fails_98 : decode cX6_fails 98 = .ok (.invokestatic 234, 3) := by decide +kernel
theorem dX6_fails_101 : decode cX6_fails 101 = .ok (.iload_n 3, 1) := by decide +kernel
theorem dX6_fails_102 : decode cX6_fails 102 = .ok (.aload_n 0, 1) := by decide +kernel
theorem dX6_fails_103 : decode cX6_fails 103 = .ok (.getfield 28, 3) := by decide +kernel
theorem dX6_fails_106 : decode cX6_fails 106 = .ok (.getfield 97, 3) := by decide +kernel
theorem dX6_fails_109 : decode cX6_fails 109 = .ok (.iload 9, 2) := by decide +kernel
theorem dX6_fails_111 : decode cX6_fails 111 = .ok (.isub, 1) := by decide +kernel
theorem dX6_fails_112 : decode cX6_fails 112 = .ok (.invokestatic 234, 3) := by decide +kernel
theorem dX6_fails_115 : decode cX6_fails 115 = .ok (.imul, 1) := by decide +kernel
theorem dX6_fails_116 : decode cX6_fails 116 = .ok (.iadd, 1) := by decide +kernel
theorem dX6_fails_117 : decode cX6_fails 117 = .ok (.istore 7, 2) := by decide +kernel
theorem dX6_fails_119 : decode cX6_fails 119 = .ok (.iinc 8 1, 3) := by decide +kernel
theorem dX6_fails_122 : decode cX6_fails 122 = .ok (.goto (-67), 3) := by decide +kernel
theorem dX6_fails_125 : decode cX6_fails 125 = .ok (.iload 7, 2) := by decide +kernel
theorem dX6_fails_127 : decode cX6_fails 127 = .ok (.bipush 10, 2) := by decide +kernel
theorem dX6_fails_129 : decode cX6_fails 129 = .ok (.aload_n 0, 1) := by decide +kernel
theorem dX6_fails_130 : decode cX6_fails 130 = .ok (.getfield 28, 3) := by decide +kernel
theorem dX6_fails_133 : decode cX6_fails 133 = .ok (.getfield 97, 3) := by decide +kernel
theorem dX6_fails_136 : decode cX6_fails 136 = .ok (.invokestatic 234, 3) := by decide +kernel
theorem dX6_fails_139 : decode cX6_fails 139 = .ok (.iload 4, 2) := by decide +kernel
theorem dX6_fails_141 : decode cX6_fails 141 = .ok (.invokestatic 220, 3) := by decide +kernel
theorem dX6_fails_144 : decode cX6_fails 144 = .ok (.ireturn, 1) := by decide +kernel
theorem dX6_seed_0 : decode cX6_seed 0 = .ok (.aload_n 0, 1) := by decide +kernel
theorem dX6_seed_1 : decode cX6_seed 1 = .ok (.getfield 57, 3) := by decide +kernel
theorem dX6_seed_4 : decode cX6_seed 4 = .ok (.lstore_n 3, 1) := by decide +kernel
theorem dX6_seed_5 : decode cX6_seed 5 = .ok (.aload_n 0, 1) := by decide +kernel
theorem dX6_seed_6 : decode cX6_seed 6 = .ok (.lload_n 1, 1) := by decide +kernel
theorem dX6_seed_7 : decode cX6_seed 7 = .ok (.putfield 57, 3) := by decide +kernel
theorem dX6_seed_10 : decode cX6_seed 10 = .ok (.lload_n 3, 1) := by decide +kernel
theorem dX6_seed_11 : decode cX6_seed 11 = .ok (.lreturn, 1) := by decide +kernel
theorem dX6_drawn_0 : decode cX6_drawn 0 = .ok (.iload_n 1, 1) := by decide +kernel
theorem dX6_drawn_1 : decode cX6_drawn 1 = .ok (.iconst 1, 1) := by decide +kernel
theorem dX6_drawn_2 : decode cX6_drawn 2 = .ok (.if_icmp .lt 9, 3) := by decide +kernel
theorem dX6_drawn_5 : decode cX6_drawn 5 = .ok (.iload_n 1, 1) := by decide +kernel
theorem dX6_drawn_6 : decode cX6_drawn 6 = .ok (.bipush 20, 2) := by decide +kernel
theorem dX6_drawn_8 : decode cX6_drawn 8 = .ok (.if_icmp .le 6, 3) := by decide +kernel
theorem dX6_drawn_11 : decode cX6_drawn 11 = .ok (.bipush (-2), 2) := by decide +kernel
theorem dX6_drawn_13 : decode cX6_drawn 13 = .ok (.ireturn, 1) := by decide +kernel
theorem dX6_drawn_14 : decode cX6_drawn 14 = .ok (.iconst 0, 1) := by decide +kernel
theorem dX6_drawn_15 : decode cX6_drawn 15 = .ok (.istore_n 2, 1) := by decide +kernel
theorem dX6_drawn_16 : decode cX6_drawn 16 = .ok (.iconst 0, 1) := by decide +kernel
theorem dX6_drawn_17 : decode cX6_drawn 17 = .ok (.istore_n 3, 1) := by decide +kernel
theorem dX6_drawn_18 : decode cX6_drawn 18 = .ok (.iload_n 3, 1) := by decide +kernel
theorem dX6_drawn_19 : decode cX6_drawn 19 = .ok (.iload_n 1, 1) := by decide +kernel
theorem dX6_drawn_20 : decode cX6_drawn 20 = .ok (.if_icmp .ge 64, 3) := by decide +kernel
theorem dX6_drawn_23 : decode cX6_drawn 23 = .ok (.aload_n 0, 1) := by decide +kernel
theorem dX6_drawn_24 : decode cX6_drawn 24 = .ok (.aload_n 0, 1) := by decide +kernel
theorem dX6_drawn_25 : decode cX6_drawn 25 = .ok (.getfield 57, 3) := by decide +kernel
theorem dX6_drawn_28 : decode cX6_drawn 28 = .ok (.ldc2_w 237, 3) := by decide +kernel
theorem dX6_drawn_31 : decode cX6_drawn 31 = .ok (.lmul, 1) := by decide +kernel
theorem dX6_drawn_32 : decode cX6_drawn 32 = .ok (.ldc2_w 239, 3) := by decide +kernel
theorem dX6_drawn_35 : decode cX6_drawn 35 = .ok (.ladd, 1) := by decide +kernel
theorem dX6_drawn_36 : decode cX6_drawn 36 = .ok (.putfield 57, 3) := by decide +kernel
theorem dX6_drawn_39 : decode cX6_drawn 39 = .ok (.aload_n 0, 1) := by decide +kernel
theorem dX6_drawn_40 : decode cX6_drawn 40 = .ok (.getfield 57, 3) := by decide +kernel
theorem dX6_drawn_43 : decode cX6_drawn 43 = .ok (.bipush 33, 2) := by decide +kernel
theorem dX6_drawn_45 : decode cX6_drawn 45 = .ok (.lushr, 1) := by decide +kernel
theorem dX6_drawn_46 : decode cX6_drawn 46 = .ok (.l2i, 1) := by decide +kernel
theorem dX6_drawn_47 : decode cX6_drawn 47 = .ok (.istore 4, 2) := by decide +kernel
theorem dX6_drawn_49 : decode cX6_drawn 49 = .ok (.iload 4, 2) := by decide +kernel
theorem dX6_drawn_51 : decode cX6_drawn 51 = .ok (.invokestatic 241, 3) := by decide +kernel
theorem dX6_drawn_54 : decode cX6_drawn 54 = .ok (.istore 5, 2) := by decide +kernel
theorem dX6_drawn_56 : decode cX6_drawn 56 = .ok (.iload_n 2, 1) := by decide +kernel
theorem dX6_drawn_57 : decode cX6_drawn 57 = .ok (.aload_n 0, 1) := by decide +kernel
theorem dX6_drawn_58 : decode cX6_drawn 58 = .ok (.getfield 28, 3) := by decide +kernel
theorem dX6_drawn_61 : decode cX6_drawn 61 = .ok (.iload 5, 2) := by decide +kernel
theorem dX6_drawn_63 : decode cX6_drawn 63 = .ok (.aload_n 0, 1) := by decide +kernel
theorem dX6_drawn_64 : decode cX6_drawn 64 = .ok (.getfield 28, 3) := by decide +kernel
theorem dX6_drawn_67 : decode cX6_drawn 67 = .ok (.getfield 97, 3) := by decide +kernel
theorem dX6_drawn_70 : decode cX6_drawn 70 = .ok (.invokevirtual 154, 3) := by decide +kernel
theorem dX6_drawn_73 : decode cX6_drawn 73 = .ok (.invokestatic 244, 3) := by decide +kernel
theorem dX6_drawn_76 : decode cX6_drawn 76 = .ok (.iadd, 1) := by decide +kernel
theorem dX6_drawn_77 : decode cX6_drawn 77 = .ok (.istore_n 2, 1) := by decide +kernel
theorem dX6_drawn_78 : decode cX6_drawn 78 = .ok (.iinc 3 1, 3) := by decide +kernel
theorem dX6_drawn_81 : decode cX6_drawn 81 = .ok (.goto (-63), 3) := by decide +kernel
theorem dX6_drawn_84 : decode cX6_drawn 84 = .ok (.iload_n 2, 1) := by decide +kernel
theorem dX6_drawn_85 : decode cX6_drawn 85 = .ok (.ireturn, 1) := by decide +kernel
theorem dX6_keep_0 : decode cX6_keep 0 = .ok (.iload_n 1, 1) := by decide +kernel
theorem dX6_keep_1 : decode cX6_keep 1 = .ok (.invokestatic 247, 3) := by decide +kernel
theorem dX6_keep_4 : decode cX6_keep 4 = .ok (.ifCond .ne 5, 3) := by decide +kernel
theorem dX6_keep_7 : decode cX6_keep 7 = .ok (.iconst (-1), 1) := by decide +kernel
theorem dX6_keep_8 : decode cX6_keep 8 = .ok (.ireturn, 1) := by decide +kernel
theorem dX6_keep_9 : decode cX6_keep 9 = .ok (.aload_n 0, 1) := by decide +kernel
theorem dX6_keep_10 : decode cX6_keep 10 = .ok (.getfield 35, 3) := by decide +kernel
theorem dX6_keep_13 : decode cX6_keep 13 = .ok (.iload_n 1, 1) := by decide +kernel
theorem dX6_keep_14 : decode cX6_keep 14 = .ok (.aaload, 1) := by decide +kernel
theorem dX6_keep_15 : decode cX6_keep 15 = .ok (.aload_n 0, 1) := by decide +kernel
theorem dX6_keep_16 : decode cX6_keep 16 = .ok (.getfield 28, 3) := by decide +kernel
theorem dX6_keep_19 : decode cX6_keep 19 = .ok (.invokevirtual 190, 3) := by decide +kernel
theorem dX6_keep_22 : decode cX6_keep 22 = .ok (.aload_n 0, 1) := by decide +kernel
theorem dX6_keep_23 : decode cX6_keep 23 = .ok (.getfield 39, 3) := by decide +kernel
theorem dX6_keep_26 : decode cX6_keep 26 = .ok (.iload_n 1, 1) := by decide +kernel
theorem dX6_keep_27 : decode cX6_keep 27 = .ok (.iconst 1, 1) := by decide +kernel
theorem dX6_keep_28 : decode cX6_keep 28 = .ok (.bastore, 1) := by decide +kernel
theorem dX6_keep_29 : decode cX6_keep 29 = .ok (.aload_n 0, 1) := by decide +kernel
theorem dX6_keep_30 : decode cX6_keep 30 = .ok (.getfield 28, 3) := by decide +kernel
theorem dX6_keep_33 : decode cX6_keep 33 = .ok (.invokevirtual 114, 3) := by decide +kernel
theorem dX6_keep_36 : decode cX6_keep 36 = .ok (.ireturn, 1) := by decide +kernel
theorem dX6_again_0 : decode cX6_again 0 = .ok (.iload_n 1, 1) := by decide +kernel
theorem dX6_again_1 : decode cX6_again 1 = .ok (.invokestatic 247, 3) := by decide +kernel
theorem dX6_again_4 : decode cX6_again 4 = .ok (.ifCond .ne 5, 3) := by decide +kernel
theorem dX6_again_7 : decode cX6_again 7 = .ok (.iconst (-1), 1) := by decide +kernel
theorem dX6_again_8 : decode cX6_again 8 = .ok (.ireturn, 1) := by decide +kernel
theorem dX6_again_9 : decode cX6_again 9 = .ok (.aload_n 0, 1) := by decide +kernel
theorem dX6_again_10 : decode cX6_again 10 = .ok (.getfield 39, 3) := by decide +kernel
theorem dX6_again_13 : decode cX6_again 13 = .ok (.iload_n 1, 1) := by decide +kernel
theorem dX6_again_14 : decode cX6_again 14 = .ok (.baload, 1) := by decide +kernel
theorem dX6_again_15 : decode cX6_again 15 = .ok (.ifCond .ne 6, 3) := by decide +kernel
theorem dX6_again_18 : decode cX6_again 18 = .ok (.bipush (-3), 2) := by decide +kernel
theorem dX6_again_20 : decode cX6_again 20 = .ok (.ireturn, 1) := by decide +kernel
theorem dX6_again_21 : decode cX6_again 21 = .ok (.aload_n 0, 1) := by decide +kernel
theorem dX6_again_22 : decode cX6_again 22 = .ok (.getfield 28, 3) := by decide +kernel
theorem dX6_again_25 : decode cX6_again 25 = .ok (.aload_n 0, 1) := by decide +kernel
theorem dX6_again_26 : decode cX6_again 26 = .ok (.getfield 35, 3) := by decide +kernel
theorem dX6_again_29 : decode cX6_again 29 = .ok (.iload_n 1, 1) := by decide +kernel
theorem dX6_again_30 : decode cX6_again 30 = .ok (.aaload, 1) := by decide +kernel
theorem dX6_again_31 : decode cX6_again 31 = .ok (.invokevirtual 190, 3) := by decide +kernel
theorem dX6_again_34 : decode cX6_again 34 = .ok (.aload_n 0, 1) := by decide +kernel
theorem dX6_again_35 : decode cX6_again 35 = .ok (.getfield 46, 3) := by decide +kernel
theorem dX6_again_38 : decode cX6_again 38 = .ok (.iconst 0, 1) := by decide +kernel
theorem dX6_again_39 : decode cX6_again 39 = .ok (.putfield 85, 3) := by decide +kernel
theorem dX6_again_42 : decode cX6_again 42 = .ok (.aload_n 0, 1) := by decide +kernel
theorem dX6_again_43 : decode cX6_again 43 = .ok (.getfield 28, 3) := by decide +kernel
theorem dX6_again_46 : decode cX6_again 46 = .ok (.invokevirtual 114, 3) := by decide +kernel
theorem dX6_again_49 : decode cX6_again 49 = .ok (.ireturn, 1) := by decide +kernel
theorem dX6_isSlot_0 : decode cX6_isSlot 0 = .ok (.iload_n 0, 1) := by decide +kernel
theorem dX6_isSlot_1 : decode cX6_isSlot 1 = .ok (.ifCond .lt 12, 3) := by decide +kernel
theorem dX6_isSlot_4 : decode cX6_isSlot 4 = .ok (.iload_n 0, 1) := by decide +kernel
theorem dX6_isSlot_5 : decode cX6_isSlot 5 = .ok (.iconst 2, 1) := by decide +kernel
theorem dX6_isSlot_6 : decode cX6_isSlot 6 = .ok (.if_icmp .ge 7, 3) := by decide +kernel
theorem dX6_isSlot_9 : decode cX6_isSlot 9 = .ok (.iconst 1, 1) := by decide +kernel
theorem dX6_isSlot_10 : decode cX6_isSlot 10 = .ok (.goto 4, 3) := by decide +kernel
theorem dX6_isSlot_13 : decode cX6_isSlot 13 = .ok (.iconst 0, 1) := by decide +kernel
theorem dX6_isSlot_14 : decode cX6_isSlot 14 = .ok (.ireturn, 1) := by decide +kernel
theorem dX6_isSignPlace_0 : decode cX6_isSignPlace 0 = .ok (.iload_n 0, 1) := by decide +kernel
theorem dX6_isSignPlace_1 : decode cX6_isSignPlace 1 = .ok (.ifCond .lt 12, 3) := by decide +kernel
theorem dX6_isSignPlace_4 : decode cX6_isSignPlace 4 = .ok (.iload_n 0, 1) := by decide +kernel
theorem dX6_isSignPlace_5 : decode cX6_isSignPlace 5 = .ok (.iconst 4, 1) := by decide +kernel
theorem dX6_isSignPlace_6 : decode cX6_isSignPlace 6 = .ok (.if_icmp .ge 7, 3) := by decide +kernel
theorem dX6_isSignPlace_9 : decode cX6_isSignPlace 9 = .ok (.iconst 1, 1) := by decide +kernel
theorem dX6_isSignPlace_10 : decode cX6_isSignPlace 10 = .ok (.goto 4, 3) := by decide +kernel
theorem dX6_isSignPlace_13 : decode cX6_isSignPlace 13 = .ok (.iconst 0, 1) := by decide +kernel
theorem dX6_isSignPlace_14 : decode cX6_isSignPlace 14 = .ok (.ireturn, 1) := by decide +kernel
theorem dX6_allowsSign_0 : decode cX6_allowsSign 0 = .ok (.iload_n 0, 1) := by decide +kernel
theorem dX6_allowsSign_1 : decode cX6_allowsSign 1 = .ok (.tableswitch 79 0 3 #[31, 47, 62, 62], 31) := by decide +kernel
theorem dX6_allowsSign_32 : decode cX6_allowsSign 32 = .ok (.iload_n 1, 1) := by decide +kernel
theorem dX6_allowsSign_33 : decode cX6_allowsSign 33 = .ok (.iconst 1, 1) := by decide +kernel
theorem dX6_allowsSign_34 : decode cX6_allowsSign 34 = .ok (.if_icmp .lt 12, 3) := by decide +kernel
theorem dX6_allowsSign_37 : decode cX6_allowsSign 37 = .ok (.iload_n 1, 1) := by decide +kernel
theorem dX6_allowsSign_38 : decode cX6_allowsSign 38 = .ok (.iconst 5, 1) := by decide +kernel
theorem dX6_allowsSign_39 : decode cX6_allowsSign 39 = .ok (.if_icmp .gt 7, 3) := by decide +kernel
theorem dX6_allowsSign_42 : decode cX6_allowsSign 42 = .ok (.iconst 1, 1) := by decide +kernel
theorem dX6_allowsSign_43 : decode cX6_allowsSign 43 = .ok (.goto 4, 3) := by decide +kernel
theorem dX6_allowsSign_46 : decode cX6_allowsSign 46 = .ok (.iconst 0, 1) := by decide +kernel
theorem dX6_allowsSign_47 : decode cX6_allowsSign 47 = .ok (.ireturn, 1) := by decide +kernel
theorem dX6_allowsSign_48 : decode cX6_allowsSign 48 = .ok (.iload_n 1, 1) := by decide +kernel
theorem dX6_allowsSign_49 : decode cX6_allowsSign 49 = .ok (.ifCond .lt 12, 3) := by decide +kernel
theorem dX6_allowsSign_52 : decode cX6_allowsSign 52 = .ok (.iload_n 1, 1) := by decide +kernel
theorem dX6_allowsSign_53 : decode cX6_allowsSign 53 = .ok (.iconst 5, 1) := by decide +kernel
theorem dX6_allowsSign_54 : decode cX6_allowsSign 54 = .ok (.if_icmp .gt 7, 3) := by decide +kernel
theorem dX6_allowsSign_57 : decode cX6_allowsSign 57 = .ok (.iconst 1, 1) := by decide +kernel
theorem dX6_allowsSign_58 : decode cX6_allowsSign 58 = .ok (.goto 4, 3) := by decide +kernel
theorem dX6_allowsSign_61 : decode cX6_allowsSign 61 = .ok (.iconst 0, 1) := by decide +kernel
theorem dX6_allowsSign_62 : decode cX6_allowsSign 62 = .ok (.ireturn, 1) := by decide +kernel
theorem dX6_allowsSign_63 : decode cX6_allowsSign 63 = .ok (.iload_n 1, 1) := by decide +kernel
theorem dX6_allowsSign_64 : decode cX6_allowsSign 64 = .ok (.iconst 1, 1) := by decide +kernel
theorem dX6_allowsSign_65 : decode cX6_allowsSign 65 = .ok (.if_icmp .lt 13, 3) := by decide +kernel
theorem dX6_allowsSign_68 : decode cX6_allowsSign 68 = .ok (.iload_n 1, 1) := by decide +kernel
theorem dX6_allowsSign_69 : decode cX6_allowsSign 69 = .ok (.bipush 7, 2) := by decide +kernel
theorem dX6_allowsSign_71 : decode cX6_allowsSign 71 = .ok (.if_icmp .gt 7, 3) := by decide +kernel
theorem dX6_allowsSign_74 : decode cX6_allowsSign 74 = .ok (.iconst 1, 1) := by decide +kernel
theorem dX6_allowsSign_75 : decode cX6_allowsSign 75 = .ok (.goto 4, 3) := by decide +kernel
theorem dX6_allowsSign_78 : decode cX6_allowsSign 78 = .ok (.iconst 0, 1) := by decide +kernel
theorem dX6_allowsSign_79 : decode cX6_allowsSign 79 = .ok (.ireturn, 1) := by decide +kernel
theorem dX6_allowsSign_80 : decode cX6_allowsSign 80 = .ok (.iconst 0, 1) := by decide +kernel
theorem dX6_allowsSign_81 : decode cX6_allowsSign 81 = .ok (.ireturn, 1) := by decide +kernel
theorem dX6_withoutLastFours_0 : decode cX6_withoutLastFours 0 = .ok (.lload_n 0, 1) := by decide +kernel
theorem dX6_withoutLastFours_1 : decode cX6_withoutLastFours 1 = .ok (.lstore_n 3, 1) := by decide +kernel
theorem dX6_withoutLastFours_2 : decode cX6_withoutLastFours 2 = .ok (.iconst 0, 1) := by decide +kernel
theorem dX6_withoutLastFours_3 : decode cX6_withoutLastFours 3 = .ok (.istore 5, 2) := by decide +kernel
theorem dX6_withoutLastFours_5 : decode cX6_withoutLastFours 5 = .ok (.iload 5, 2) := by decide +kernel
theorem dX6_withoutLastFours_7 : decode cX6_withoutLastFours 7 = .ok (.iload_n 2, 1) := by decide +kernel
theorem dX6_withoutLastFours_8 : decode cX6_withoutLastFours 8 = .ok (.if_icmp .ge 15, 3) := by decide +kernel
theorem dX6_withoutLastFours_11 : decode cX6_withoutLastFours 11 = .ok (.lload_n 3, 1) := by decide +kernel
theorem dX6_withoutLastFours_12 : decode cX6_withoutLastFours 12 = .ok (.ldc2_w 206, 3) := by decide +kernel
theorem dX6_withoutLastFours_15 : decode cX6_withoutLastFours 15 = .ok (.ldiv, 1) := by decide +kernel
theorem dX6_withoutLastFours_16 : decode cX6_withoutLastFours 16 = .ok (.lstore_n 3, 1) := by decide +kernel
theorem dX6_withoutLastFours_17 : decode cX6_withoutLastFours 17 = .ok (.iinc 5 1, 3) := by decide +kernel
theorem dX6_withoutLastFours_20 : decode cX6_withoutLastFours 20 = .ok (.goto (-15), 3) := by decide +kernel
theorem dX6_withoutLastFours_23 : decode cX6_withoutLastFours 23 = .ok (.lload_n 3, 1) := by decide +kernel
theorem dX6_withoutLastFours_24 : decode cX6_withoutLastFours 24 = .ok (.lreturn, 1) := by decide +kernel
theorem dX6_canBe_0 : decode cX6_canBe 0 = .ok (.iload_n 1, 1) := by decide +kernel
theorem dX6_canBe_1 : decode cX6_canBe 1 = .ok (.tableswitch 215 1 6 #[39, 59, 68, 103, 149, 189], 39) := by decide +kernel
theorem dX6_canBe_40 : decode cX6_canBe 40 = .ok (.iload_n 2, 1) := by decide +kernel
theorem dX6_canBe_41 : decode cX6_canBe 41 = .ok (.ifCond .ne 17, 3) := by decide +kernel
theorem dX6_canBe_44 : decode cX6_canBe 44 = .ok (.aload_n 0, 1) := by decide +kernel
theorem dX6_canBe_45 : decode cX6_canBe 45 = .ok (.iload_n 3, 1) := by decide +kernel
theorem dX6_canBe_46 : decode cX6_canBe 46 = .ok (.iload 4, 2) := by decide +kernel
theorem dX6_canBe_48 : decode cX6_canBe 48 = .ok (.invokevirtual 250, 3) := by decide +kernel
theorem dX6_canBe_51 : decode cX6_canBe 51 = .ok (.ifCond .eq 7, 3) := by decide +kernel
theorem dX6_canBe_54 : decode cX6_canBe 54 = .ok (.iconst 1, 1) := by decide +kernel
theorem dX6_canBe_55 : decode cX6_canBe 55 = .ok (.goto 4, 3) := by decide +kernel
theorem dX6_canBe_58 : decode cX6_canBe 58 = .ok (.iconst 0, 1) := by decide +kernel
theorem dX6_canBe_59 : decode cX6_canBe 59 = .ok (.ireturn, 1) := by decide +kernel
theorem dX6_canBe_60 : decode cX6_canBe 60 = .ok (.aload_n 0, 1) := by decide +kernel
theorem dX6_canBe_61 : decode cX6_canBe 61 = .ok (.iload_n 2, 1) := by decide +kernel
theorem dX6_canBe_62 : decode cX6_canBe 62 = .ok (.iload_n 3, 1) := by decide +kernel
theorem dX6_canBe_63 : decode cX6_canBe 63 = .ok (.iload 4, 2) := by decide +kernel
theorem dX6_canBe_65 : decode cX6_canBe 65 = .ok (.invokevirtual 253, 3) := by decide +kernel
theorem dX6_canBe_68 : decode cX6_canBe 68 = .ok (.ireturn, 1) := by decide +kernel
theorem dX6_canBe_69 : decode cX6_canBe 69 = .ok (.aload_n 0, 1) := by decide +kernel
theorem dX6_canBe_70 : decode cX6_canBe 70 = .ok (.getfield 19, 3) := by decide +kernel
theorem dX6_canBe_73 : decode cX6_canBe 73 = .ok (.iload_n 2, 1) := by decide +kernel
theorem dX6_canBe_74 : decode cX6_canBe 74 = .ok (.iload_n 3, 1) := by decide +kernel
theorem dX6_canBe_75 : decode cX6_canBe 75 = .ok (.invokevirtual 144, 3) := by decide +kernel
theorem dX6_canBe_78 : decode cX6_canBe 78 = .ok (.ifCond .eq 24, 3) := by decide +kernel
theorem dX6_canBe_81 : decode cX6_canBe 81 = .ok (.aload_n 0, 1) := by decide +kernel
theorem dX6_canBe_82 : decode cX6_canBe 82 = .ok (.getfield 32, 3) := by decide +kernel
theorem dX6_canBe_85 : decode cX6_canBe 85 = .ok (.iload_n 2, 1) := by decide +kernel
theorem dX6_canBe_86 : decode cX6_canBe 86 = .ok (.iload_n 3, 1) := by decide +kernel
theorem dX6_canBe_87 : decode cX6_canBe 87 = .ok (.invokevirtual 148, 3) := by decide +kernel
theorem dX6_canBe_90 : decode cX6_canBe 90 = .ok (.invokestatic 244, 3) := by decide +kernel
theorem dX6_canBe_93 : decode cX6_canBe 93 = .ok (.iload 4, 2) := by decide +kernel
theorem dX6_canBe_95 : decode cX6_canBe 95 = .ok (.if_icmp .ne 7, 3) := by decide +kernel
theorem dX6_canBe_98 : decode cX6_canBe 98 = .ok (.iconst 1, 1) := by decide +kernel
theorem dX6_canBe_99 : decode cX6_canBe 99 = .ok (.goto 4, 3) := by decide +kernel
theorem dX6_canBe_102 : decode cX6_canBe 102 = .ok (.iconst 0, 1) := by decide +kernel
theorem dX6_canBe_103 : decode cX6_canBe 103 = .ok (.ireturn, 1) := by decide +kernel
theorem dX6_canBe_104 : decode cX6_canBe 104 = .ok (.iload_n 2, 1) := by decide +kernel
theorem dX6_canBe_105 : decode cX6_canBe 105 = .ok (.ifCond .ne 43, 3) := by decide +kernel
theorem dX6_canBe_108 : decode cX6_canBe 108 = .ok (.aload_n 0, 1) := by decide +kernel
theorem dX6_canBe_109 : decode cX6_canBe 109 = .ok (.getfield 32, 3) := by decide +kernel
theorem dX6_canBe_112 : decode cX6_canBe 112 = .ok (.iload_n 3, 1) := by decide +kernel
theorem dX6_canBe_113 : decode cX6_canBe 113 = .ok (.invokevirtual 131, 3) := by decide +kernel
theorem dX6_canBe_116 : decode cX6_canBe 116 = .ok (.ifCond .eq 32, 3) := by decide +kernel
theorem dX6_canBe_119 : decode cX6_canBe 119 = .ok (.aload_n 0, 1) := by decide +kernel
theorem dX6_canBe_120 : decode cX6_canBe 120 = .ok (.getfield 32, 3) := by decide +kernel
theorem dX6_canBe_123 : decode cX6_canBe 123 = .ok (.iload 4, 2) := by decide +kernel
theorem dX6_canBe_125 : decode cX6_canBe 125 = .ok (.invokevirtual 131, 3) := by decide +kernel
theorem dX6_canBe_128 : decode cX6_canBe 128 = .ok (.ifCond .eq 20, 3) := by decide +kernel
theorem dX6_canBe_131 : decode cX6_canBe 131 = .ok (.aload_n 0, 1) := by decide +kernel
theorem dX6_canBe_132 : decode cX6_canBe 132 = .ok (.getfield 32, 3) := by decide +kernel
theorem dX6_canBe_135 : decode cX6_canBe 135 = .ok (.iload_n 3, 1) := by decide +kernel
theorem dX6_canBe_136 : decode cX6_canBe 136 = .ok (.iload 4, 2) := by decide +kernel
theorem dX6_canBe_138 : decode cX6_canBe 138 = .ok (.invokevirtual 187, 3) := by decide +kernel
theorem dX6_canBe_141 : decode cX6_canBe 141 = .ok (.ifCond .eq 7, 3) := by decide +kernel
theorem dX6_canBe_144 : decode cX6_canBe 144 = .ok (.iconst 1, 1) := by decide +kernel
theorem dX6_canBe_145 : decode cX6_canBe 145 = .ok (.goto 4, 3) := by decide +kernel
theorem dX6_canBe_148 : decode cX6_canBe 148 = .ok (.iconst 0, 1) := by decide +kernel
theorem dX6_canBe_149 : decode cX6_canBe 149 = .ok (.ireturn, 1) := by decide +kernel
theorem dX6_canBe_150 : decode cX6_canBe 150 = .ok (.aload_n 0, 1) := by decide +kernel
theorem dX6_canBe_151 : decode cX6_canBe 151 = .ok (.getfield 32, 3) := by decide +kernel
theorem dX6_canBe_154 : decode cX6_canBe 154 = .ok (.iload_n 2, 1) := by decide +kernel
theorem dX6_canBe_155 : decode cX6_canBe 155 = .ok (.invokevirtual 131, 3) := by decide +kernel
theorem dX6_canBe_158 : decode cX6_canBe 158 = .ok (.ifCond .eq 30, 3) := by decide +kernel
theorem dX6_canBe_161 : decode cX6_canBe 161 = .ok (.iload_n 3, 1) := by decide +kernel
theorem dX6_canBe_162 : decode cX6_canBe 162 = .ok (.ifCond .ne 26, 3) := by decide +kernel
theorem dX6_canBe_165 : decode cX6_canBe 165 = .ok (.iload 4, 2) := by decide +kernel
theorem dX6_canBe_167 : decode cX6_canBe 167 = .ok (.ifCond .ne 21, 3) := by decide +kernel
theorem dX6_canBe_170 : decode cX6_canBe 170 = .ok (.aload_n 0, 1) := by decide +kernel
theorem dX6_canBe_171 : decode cX6_canBe 171 = .ok (.getfield 32, 3) := by decide +kernel
theorem dX6_canBe_174 : decode cX6_canBe 174 = .ok (.invokevirtual 108, 3) := by decide +kernel
theorem dX6_canBe_177 : decode cX6_canBe 177 = .ok (.iconst 1, 1) := by decide +kernel
theorem dX6_canBe_178 : decode cX6_canBe 178 = .ok (.iload_n 2, 1) := by decide +kernel
theorem dX6_canBe_179 : decode cX6_canBe 179 = .ok (.ishl, 1) := by decide +kernel
theorem dX6_canBe_180 : decode cX6_canBe 180 = .ok (.iand, 1) := by decide +kernel
theorem dX6_canBe_181 : decode cX6_canBe 181 = .ok (.ifCond .eq 7, 3) := by decide +kernel
theorem dX6_canBe_184 : decode cX6_canBe 184 = .ok (.iconst 1, 1) := by decide +kernel
theorem dX6_canBe_185 : decode cX6_canBe 185 = .ok (.goto 4, 3) := by decide +kernel
theorem dX6_canBe_188 : decode cX6_canBe 188 = .ok (.iconst 0, 1) := by decide +kernel
theorem dX6_canBe_189 : decode cX6_canBe 189 = .ok (.ireturn, 1) := by decide +kernel
theorem dX6_canBe_190 : decode cX6_canBe 190 = .ok (.iload_n 2, 1) := by decide +kernel
theorem dX6_canBe_191 : decode cX6_canBe 191 = .ok (.ifCond .ne 23, 3) := by decide +kernel
theorem dX6_canBe_194 : decode cX6_canBe 194 = .ok (.iload_n 3, 1) := by decide +kernel
theorem dX6_canBe_195 : decode cX6_canBe 195 = .ok (.ifCond .ne 19, 3) := by decide +kernel
theorem dX6_canBe_198 : decode cX6_canBe 198 = .ok (.aload_n 0, 1) := by decide +kernel
theorem dX6_canBe_199 : decode cX6_canBe 199 = .ok (.getfield 32, 3) := by decide +kernel
theorem dX6_canBe_202 : decode cX6_canBe 202 = .ok (.invokevirtual 111, 3) := by decide +kernel
theorem dX6_canBe_205 : decode cX6_canBe 205 = .ok (.iload 4, 2) := by decide +kernel
theorem dX6_canBe_207 : decode cX6_canBe 207 = .ok (.if_icmp .gt 7, 3) := by decide +kernel
theorem dX6_canBe_210 : decode cX6_canBe 210 = .ok (.iconst 1, 1) := by decide +kernel
theorem dX6_canBe_211 : decode cX6_canBe 211 = .ok (.goto 4, 3) := by decide +kernel
theorem dX6_canBe_214 : decode cX6_canBe 214 = .ok (.iconst 0, 1) := by decide +kernel
theorem dX6_canBe_215 : decode cX6_canBe 215 = .ok (.ireturn, 1) := by decide +kernel
theorem dX6_canBe_216 : decode cX6_canBe 216 = .ok (.iconst 0, 1) := by decide +kernel
theorem dX6_canBe_217 : decode cX6_canBe 217 = .ok (.ireturn, 1) := by decide +kernel
theorem dX6_canSwap_0 : decode cX6_canSwap 0 = .ok (.aload_n 0, 1) := by decide +kernel
theorem dX6_canSwap_1 : decode cX6_canSwap 1 = .ok (.getfield 32, 3) := by decide +kernel
theorem dX6_canSwap_4 : decode cX6_canSwap 4 = .ok (.iload_n 1, 1) := by decide +kernel
theorem dX6_canSwap_5 : decode cX6_canSwap 5 = .ok (.invokevirtual 131, 3) := by decide +kernel
theorem dX6_canSwap_8 : decode cX6_canSwap 8 = .ok (.ifCond .eq 14, 3) := by decide +kernel
theorem dX6_canSwap_11 : decode cX6_canSwap 11 = .ok (.aload_n 0, 1) := by decide +kernel
theorem dX6_canSwap_12 : decode cX6_canSwap 12 = .ok (.getfield 32, 3) := by decide +kernel
theorem dX6_canSwap_15 : decode cX6_canSwap 15 = .ok (.iload_n 2, 1) := by decide +kernel
theorem dX6_canSwap_16 : decode cX6_canSwap 16 = .ok (.invokevirtual 131, 3) := by decide +kernel
theorem dX6_canSwap_19 : decode cX6_canSwap 19 = .ok (.ifCond .ne 5, 3) := by decide +kernel
theorem dX6_canSwap_22 : decode cX6_canSwap 22 = .ok (.iconst 0, 1) := by decide +kernel
theorem dX6_canSwap_23 : decode cX6_canSwap 23 = .ok (.ireturn, 1) := by decide +kernel
theorem dX6_canSwap_24 : decode cX6_canSwap 24 = .ok (.aload_n 0, 1) := by decide +kernel
theorem dX6_canSwap_25 : decode cX6_canSwap 25 = .ok (.getfield 32, 3) := by decide +kernel
theorem dX6_canSwap_28 : decode cX6_canSwap 28 = .ok (.iload_n 1, 1) := by decide +kernel
theorem dX6_canSwap_29 : decode cX6_canSwap 29 = .ok (.iload_n 2, 1) := by decide +kernel
theorem dX6_canSwap_30 : decode cX6_canSwap 30 = .ok (.invokevirtual 165, 3) := by decide +kernel
theorem dX6_canSwap_33 : decode cX6_canSwap 33 = .ok (.iconst 1, 1) := by decide +kernel
theorem dX6_canSwap_34 : decode cX6_canSwap 34 = .ok (.ireturn, 1) := by decide +kernel
theorem dX6_canSign_0 : decode cX6_canSign 0 = .ok (.aload_n 0, 1) := by decide +kernel
theorem dX6_canSign_1 : decode cX6_canSign 1 = .ok (.getfield 32, 3) := by decide +kernel
theorem dX6_canSign_4 : decode cX6_canSign 4 = .ok (.iload_n 1, 1) := by decide +kernel
theorem dX6_canSign_5 : decode cX6_canSign 5 = .ok (.invokevirtual 131, 3) := by decide +kernel
theorem dX6_canSign_8 : decode cX6_canSign 8 = .ok (.ifCond .eq 11, 3) := by decide +kernel
theorem dX6_canSign_11 : decode cX6_canSign 11 = .ok (.iload_n 2, 1) := by decide +kernel
theorem dX6_canSign_12 : decode cX6_canSign 12 = .ok (.iload_n 3, 1) := by decide +kernel
theorem dX6_canSign_13 : decode cX6_canSign 13 = .ok (.invokestatic 173, 3) := by decide +kernel
theorem dX6_canSign_16 : decode cX6_canSign 16 = .ok (.ifCond .ne 5, 3) := by decide +kernel
theorem dX6_canSign_19 : decode cX6_canSign 19 = .ok (.iconst 0, 1) := by decide +kernel
theorem dX6_canSign_20 : decode cX6_canSign 20 = .ok (.ireturn, 1) := by decide +kernel
theorem dX6_canSign_21 : decode cX6_canSign 21 = .ok (.aload_n 0, 1) := by decide +kernel
theorem dX6_canSign_22 : decode cX6_canSign 22 = .ok (.getfield 32, 3) := by decide +kernel
theorem dX6_canSign_25 : decode cX6_canSign 25 = .ok (.iload_n 1, 1) := by decide +kernel
theorem dX6_canSign_26 : decode cX6_canSign 26 = .ok (.iload_n 2, 1) := by decide +kernel
theorem dX6_canSign_27 : decode cX6_canSign 27 = .ok (.iload_n 3, 1) := by decide +kernel
theorem dX6_canSign_28 : decode cX6_canSign 28 = .ok (.invokevirtual 176, 3) := by decide +kernel
theorem dX6_canSign_31 : decode cX6_canSign 31 = .ok (.iconst 1, 1) := by decide +kernel
theorem dX6_canSign_32 : decode cX6_canSign 32 = .ok (.ireturn, 1) := by decide +kernel
theorem dX6_rootDrawnFrom_0 : decode cX6_rootDrawnFrom 0 = .ok (.iload_n 0, 1) := by decide +kernel
theorem dX6_rootDrawnFrom_1 : decode cX6_rootDrawnFrom 1 = .ok (.iconst 5, 1) := by decide +kernel
theorem dX6_rootDrawnFrom_2 : decode cX6_rootDrawnFrom 2 = .ok (.irem, 1) := by decide +kernel
theorem dX6_rootDrawnFrom_3 : decode cX6_rootDrawnFrom 3 = .ok (.iconst 1, 1) := by decide +kernel
theorem dX6_rootDrawnFrom_4 : decode cX6_rootDrawnFrom 4 = .ok (.iadd, 1) := by decide +kernel
theorem dX6_rootDrawnFrom_5 : decode cX6_rootDrawnFrom 5 = .ok (.istore_n 1, 1) := by decide +kernel
theorem dX6_rootDrawnFrom_6 : decode cX6_rootDrawnFrom 6 = .ok (.iload_n 0, 1) := by decide +kernel
theorem dX6_rootDrawnFrom_7 : decode cX6_rootDrawnFrom 7 = .ok (.bipush 8, 2) := by decide +kernel
theorem dX6_rootDrawnFrom_9 : decode cX6_rootDrawnFrom 9 = .ok (.idiv, 1) := by decide +kernel
theorem dX6_rootDrawnFrom_10 : decode cX6_rootDrawnFrom 10 = .ok (.iconst 5, 1) := by decide +kernel
theorem dX6_rootDrawnFrom_11 : decode cX6_rootDrawnFrom 11 = .ok (.irem, 1) := by decide +kernel
theorem dX6_rootDrawnFrom_12 : decode cX6_rootDrawnFrom 12 = .ok (.iconst 1, 1) := by decide +kernel
theorem dX6_rootDrawnFrom_13 : decode cX6_rootDrawnFrom 13 = .ok (.iadd, 1) := by decide +kernel
theorem dX6_rootDrawnFrom_14 : decode cX6_rootDrawnFrom 14 = .ok (.istore_n 2, 1) := by decide +kernel
theorem dX6_rootDrawnFrom_15 : decode cX6_rootDrawnFrom 15 = .ok (.iload_n 0, 1) := by decide +kernel
theorem dX6_rootDrawnFrom_16 : decode cX6_rootDrawnFrom 16 = .ok (.bipush 64, 2) := by decide +kernel
theorem dX6_rootDrawnFrom_18 : decode cX6_rootDrawnFrom 18 = .ok (.idiv, 1) := by decide +kernel
theorem dX6_rootDrawnFrom_19 : decode cX6_rootDrawnFrom 19 = .ok (.iconst 5, 1) := by decide +kernel
theorem dX6_rootDrawnFrom_20 : decode cX6_rootDrawnFrom 20 = .ok (.irem, 1) := by decide +kernel
theorem dX6_rootDrawnFrom_21 : decode cX6_rootDrawnFrom 21 = .ok (.iconst 1, 1) := by decide +kernel
theorem dX6_rootDrawnFrom_22 : decode cX6_rootDrawnFrom 22 = .ok (.iadd, 1) := by decide +kernel
theorem dX6_rootDrawnFrom_23 : decode cX6_rootDrawnFrom 23 = .ok (.istore_n 3, 1) := by decide +kernel
theorem dX6_rootDrawnFrom_24 : decode cX6_rootDrawnFrom 24 = .ok (.iload_n 0, 1) := by decide +kernel
theorem dX6_rootDrawnFrom_25 : decode cX6_rootDrawnFrom 25 = .ok (.sipush 512, 3) := by decide +kernel
theorem dX6_rootDrawnFrom_28 : decode cX6_rootDrawnFrom 28 = .ok (.idiv, 1) := by decide +kernel
theorem dX6_rootDrawnFrom_29 : decode cX6_rootDrawnFrom 29 = .ok (.iconst 5, 1) := by decide +kernel
theorem dX6_rootDrawnFrom_30 : decode cX6_rootDrawnFrom 30 = .ok (.irem, 1) := by decide +kernel
theorem dX6_rootDrawnFrom_31 : decode cX6_rootDrawnFrom 31 = .ok (.iconst 1, 1) := by decide +kernel
theorem dX6_rootDrawnFrom_32 : decode cX6_rootDrawnFrom 32 = .ok (.iadd, 1) := by decide +kernel
theorem dX6_rootDrawnFrom_33 : decode cX6_rootDrawnFrom 33 = .ok (.istore 4, 2) := by decide +kernel
theorem dX6_rootDrawnFrom_35 : decode cX6_rootDrawnFrom 35 = .ok (.sipush 1000, 3) := by decide +kernel
theorem dX6_rootDrawnFrom_38 : decode cX6_rootDrawnFrom 38 = .ok (.iload_n 1, 1) := by decide +kernel
theorem dX6_rootDrawnFrom_39 : decode cX6_rootDrawnFrom 39 = .ok (.imul, 1) := by decide +kernel
theorem dX6_rootDrawnFrom_40 : decode cX6_rootDrawnFrom 40 = .ok (.bipush 100, 2) := by decide +kernel
theorem dX6_rootDrawnFrom_42 : decode cX6_rootDrawnFrom 42 = .ok (.iload_n 2, 1) := by decide +kernel
theorem dX6_rootDrawnFrom_43 : decode cX6_rootDrawnFrom 43 = .ok (.imul, 1) := by decide +kernel
theorem dX6_rootDrawnFrom_44 : decode cX6_rootDrawnFrom 44 = .ok (.iadd, 1) := by decide +kernel
theorem dX6_rootDrawnFrom_45 : decode cX6_rootDrawnFrom 45 = .ok (.bipush 10, 2) := by decide +kernel
theorem dX6_rootDrawnFrom_47 : decode cX6_rootDrawnFrom 47 = .ok (.iload_n 3, 1) := by decide +kernel
theorem dX6_rootDrawnFrom_48 : decode cX6_rootDrawnFrom 48 = .ok (.imul, 1) := by decide +kernel
theorem dX6_rootDrawnFrom_49 : decode cX6_rootDrawnFrom 49 = .ok (.iadd, 1) := by decide +kernel
theorem dX6_rootDrawnFrom_50 : decode cX6_rootDrawnFrom 50 = .ok (.iload 4, 2) := by decide +kernel
theorem dX6_rootDrawnFrom_52 : decode cX6_rootDrawnFrom 52 = .ok (.iadd, 1) := by decide +kernel
theorem dX6_rootDrawnFrom_53 : decode cX6_rootDrawnFrom 53 = .ok (.ireturn, 1) := by decide +kernel
theorem dX6_power_0 : decode cX6_power 0 = .ok (.iconst 1, 1) := by decide +kernel
theorem dX6_power_1 : decode cX6_power 1 = .ok (.istore_n 2, 1) := by decide +kernel
theorem dX6_power_2 : decode cX6_power 2 = .ok (.iconst 0, 1) := by decide +kernel
theorem dX6_power_3 : decode cX6_power 3 = .ok (.istore_n 3, 1) := by decide +kernel
theorem dX6_power_4 : decode cX6_power 4 = .ok (.iload_n 3, 1) := by decide +kernel
theorem dX6_power_5 : decode cX6_power 5 = .ok (.iload_n 1, 1) := by decide +kernel
theorem dX6_power_6 : decode cX6_power 6 = .ok (.if_icmp .ge 13, 3) := by decide +kernel
theorem dX6_power_9 : decode cX6_power 9 = .ok (.iload_n 2, 1) := by decide +kernel
theorem dX6_power_10 : decode cX6_power 10 = .ok (.iload_n 0, 1) := by decide +kernel
theorem dX6_power_11 : decode cX6_power 11 = .ok (.imul, 1) := by decide +kernel
theorem dX6_power_12 : decode cX6_power 12 = .ok (.istore_n 2, 1) := by decide +kernel
theorem dX6_power_13 : decode cX6_power 13 = .ok (.iinc 3 1, 3) := by decide +kernel
theorem dX6_power_16 : decode cX6_power 16 = .ok (.goto (-12), 3) := by decide +kernel
theorem dX6_power_19 : decode cX6_power 19 = .ok (.iload_n 2, 1) := by decide +kernel
theorem dX6_power_20 : decode cX6_power 20 = .ok (.ireturn, 1) := by decide +kernel
theorem dX6_fraction_0 : decode cX6_fraction 0 = .ok (.iload_n 0, 1) := by decide +kernel
theorem dX6_fraction_1 : decode cX6_fraction 1 = .ok (.invokestatic 257, 3) := by decide +kernel
theorem dX6_fraction_4 : decode cX6_fraction 4 = .ok (.iload_n 1, 1) := by decide +kernel
theorem dX6_fraction_5 : decode cX6_fraction 5 = .ok (.invokestatic 262, 3) := by decide +kernel
theorem dX6_fraction_8 : decode cX6_fraction 8 = .ok (.istore_n 3, 1) := by decide +kernel
theorem dX6_fraction_9 : decode cX6_fraction 9 = .ok (.iload_n 2, 1) := by decide +kernel
theorem dX6_fraction_10 : decode cX6_fraction 10 = .ok (.ifCond .eq 7, 3) := by decide +kernel
theorem dX6_fraction_13 : decode cX6_fraction 13 = .ok (.iload_n 0, 1) := by decide +kernel
theorem dX6_fraction_14 : decode cX6_fraction 14 = .ok (.goto 4, 3) := by decide +kernel
theorem dX6_fraction_17 : decode cX6_fraction 17 = .ok (.iload_n 1, 1) := by decide +kernel
theorem dX6_fraction_18 : decode cX6_fraction 18 = .ok (.istore 4, 2) := by decide +kernel
theorem dX6_fraction_20 : decode cX6_fraction 20 = .ok (.iload_n 3, 1) := by decide +kernel
theorem dX6_fraction_21 : decode cX6_fraction 21 = .ok (.iconst 1, 1) := by decide +kernel
theorem dX6_fraction_22 : decode cX6_fraction 22 = .ok (.if_icmp .le 10, 3) := by decide +kernel
theorem dX6_fraction_25 : decode cX6_fraction 25 = .ok (.iload 4, 2) := by decide +kernel
theorem dX6_fraction_27 : decode cX6_fraction 27 = .ok (.iload_n 3, 1) := by decide +kernel
theorem dX6_fraction_28 : decode cX6_fraction 28 = .ok (.idiv, 1) := by decide +kernel
theorem dX6_fraction_29 : decode cX6_fraction 29 = .ok (.goto 5, 3) := by decide +kernel
theorem dX6_fraction_32 : decode cX6_fraction 32 = .ok (.iload 4, 2) := by decide +kernel
theorem dX6_fraction_34 : decode cX6_fraction 34 = .ok (.ireturn, 1) := by decide +kernel
theorem dX6_sharedDivisor_0 : decode cX6_sharedDivisor 0 = .ok (.iload_n 0, 1) := by decide +kernel
theorem dX6_sharedDivisor_1 : decode cX6_sharedDivisor 1 = .ok (.istore_n 2, 1) := by decide +kernel
theorem dX6_sharedDivisor_2 : decode cX6_sharedDivisor 2 = .ok (.iload_n 1, 1) := by decide +kernel
theorem dX6_sharedDivisor_3 : decode cX6_sharedDivisor 3 = .ok (.istore_n 3, 1) := by decide +kernel
theorem dX6_sharedDivisor_4 : decode cX6_sharedDivisor 4 = .ok (.iconst 0, 1) := by decide +kernel
theorem dX6_sharedDivisor_5 : decode cX6_sharedDivisor 5 = .ok (.istore 4, 2) := by decide +kernel
theorem dX6_sharedDivisor_7 : decode cX6_sharedDivisor 7 = .ok (.iload 4, 2) := by decide +kernel
theorem dX6_sharedDivisor_9 : decode cX6_sharedDivisor 9 = .ok (.bipush 64, 2) := by decide +kernel
theorem dX6_sharedDivisor_11 : decode cX6_sharedDivisor 11 = .ok (.if_icmp .ge 23, 3) := by decide +kernel
theorem dX6_sharedDivisor_14 : decode cX6_sharedDivisor 14 = .ok (.iload_n 3, 1) := by decide +kernel
theorem dX6_sharedDivisor_15 : decode cX6_sharedDivisor 15 = .ok (.ifCond .eq 19, 3) := by decide +kernel
theorem dX6_sharedDivisor_18 : decode cX6_sharedDivisor 18 = .ok (.iload_n 2, 1) := by decide +kernel
theorem dX6_sharedDivisor_19 : decode cX6_sharedDivisor 19 = .ok (.iload_n 3, 1) := by decide +kernel
theorem dX6_sharedDivisor_20 : decode cX6_sharedDivisor 20 = .ok (.irem, 1) := by decide +kernel
theorem dX6_sharedDivisor_21 : decode cX6_sharedDivisor 21 = .ok (.istore 5, 2) := by decide +kernel
theorem dX6_sharedDivisor_23 : decode cX6_sharedDivisor 23 = .ok (.iload_n 3, 1) := by decide +kernel
theorem dX6_sharedDivisor_24 : decode cX6_sharedDivisor 24 = .ok (.istore_n 2, 1) := by decide +kernel
theorem dX6_sharedDivisor_25 : decode cX6_sharedDivisor 25 = .ok (.iload 5, 2) := by decide +kernel
theorem dX6_sharedDivisor_27 : decode cX6_sharedDivisor 27 = .ok (.istore_n 3, 1) := by decide +kernel
theorem dX6_sharedDivisor_28 : decode cX6_sharedDivisor 28 = .ok (.iinc 4 1, 3) := by decide +kernel
theorem dX6_sharedDivisor_31 : decode cX6_sharedDivisor 31 = .ok (.goto (-24), 3) := by decide +kernel
theorem dX6_sharedDivisor_34 : decode cX6_sharedDivisor 34 = .ok (.iload_n 2, 1) := by decide +kernel
theorem dX6_sharedDivisor_35 : decode cX6_sharedDivisor 35 = .ok (.ireturn, 1) := by decide +kernel
theorem dX7_init_0 : decode cX7_init 0 = .ok (.aload_n 0, 1) := by decide +kernel
theorem dX7_init_1 : decode cX7_init 1 = .ok (.invokespecial 1, 3) := by decide +kernel
theorem dX7_init_4 : decode cX7_init 4 = .ok (.aload_n 0, 1) := by decide +kernel
theorem dX7_init_5 : decode cX7_init 5 = .ok (.bipush 60, 2) := by decide +kernel
theorem dX7_init_7 : decode cX7_init 7 = .ok (.newarray .int, 2) := by decide +kernel
theorem dX7_init_9 : decode cX7_init 9 = .ok (.putfield 7, 3) := by decide +kernel
theorem dX7_init_12 : decode cX7_init 12 = .ok (.aload_n 0, 1) := by decide +kernel
theorem dX7_init_13 : decode cX7_init 13 = .ok (.bipush 32, 2) := by decide +kernel
theorem dX7_init_15 : decode cX7_init 15 = .ok (.newarray .int, 2) := by decide +kernel
theorem dX7_init_17 : decode cX7_init 17 = .ok (.putfield 13, 3) := by decide +kernel
theorem dX7_init_20 : decode cX7_init 20 = .ok (.aload_n 0, 1) := by decide +kernel
theorem dX7_init_21 : decode cX7_init 21 = .ok (.bipush 32, 2) := by decide +kernel
theorem dX7_init_23 : decode cX7_init 23 = .ok (.newarray .int, 2) := by decide +kernel
theorem dX7_init_25 : decode cX7_init 25 = .ok (.putfield 16, 3) := by decide +kernel
theorem dX7_init_28 : decode cX7_init 28 = .ok (.aload_n 0, 1) := by decide +kernel
theorem dX7_init_29 : decode cX7_init 29 = .ok (.sipush 448, 3) := by decide +kernel
theorem dX7_init_32 : decode cX7_init 32 = .ok (.newarray .int, 2) := by decide +kernel
theorem dX7_init_34 : decode cX7_init 34 = .ok (.putfield 19, 3) := by decide +kernel
theorem dX7_init_37 : decode cX7_init 37 = .ok (.aload_n 0, 1) := by decide +kernel
theorem dX7_init_38 : decode cX7_init 38 = .ok (.bipush 64, 2) := by decide +kernel
theorem dX7_init_40 : decode cX7_init 40 = .ok (.newarray .int, 2) := by decide +kernel
theorem dX7_init_42 : decode cX7_init 42 = .ok (.putfield 22, 3) := by decide +kernel
theorem dX7_init_45 : decode cX7_init 45 = .ok (.aload_n 0, 1) := by decide +kernel
theorem dX7_init_46 : decode cX7_init 46 = .ok (.iconst 2, 1) := by decide +kernel
theorem dX7_init_47 : decode cX7_init 47 = .ok (.newarray .boolean, 2) := by decide +kernel
theorem dX7_init_49 : decode cX7_init 49 = .ok (.putfield 25, 3) := by decide +kernel
theorem dX7_init_52 : decode cX7_init 52 = .ok (.aload_n 0, 1) := by decide +kernel
theorem dX7_init_53 : decode cX7_init 53 = .ok (.iconst 4, 1) := by decide +kernel
theorem dX7_init_54 : decode cX7_init 54 = .ok (.newarray .int, 2) := by decide +kernel
theorem dX7_init_56 : decode cX7_init 56 = .ok (.putfield 29, 3) := by decide +kernel
theorem dX7_init_59 : decode cX7_init 59 = .ok (.aload_n 0, 1) := by decide +kernel
theorem dX7_init_60 : decode cX7_init 60 = .ok (.iconst 3, 1) := by decide +kernel
theorem dX7_init_61 : decode cX7_init 61 = .ok (.newarray .int, 2) := by decide +kernel
theorem dX7_init_63 : decode cX7_init 63 = .ok (.putfield 32, 3) := by decide +kernel
theorem dX7_init_66 : decode cX7_init 66 = .ok (.aload_n 0, 1) := by decide +kernel
theorem dX7_init_67 : decode cX7_init 67 = .ok (.iconst 4, 1) := by decide +kernel
theorem dX7_init_68 : decode cX7_init 68 = .ok (.newarray .int, 2) := by decide +kernel
theorem dX7_init_70 : decode cX7_init 70 = .ok (.putfield 35, 3) := by decide +kernel
theorem dX7_init_73 : decode cX7_init 73 = .ok (.aload_n 0, 1) := by decide +kernel
