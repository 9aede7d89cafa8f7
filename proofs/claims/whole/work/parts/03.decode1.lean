theorem dX0_init_0 : decode cX0_init 0 = .ok (.aload_n 0, 1) := by decide +kernel
theorem dX0_init_1 : decode cX0_init 1 = .ok (.invokespecial 3, 3) := by decide +kernel
theorem dX0_init_4 : decode cX0_init 4 = .ok (.aload_n 0, 1) := by decide +kernel
theorem dX0_init_5 : decode cX0_init 5 = .ok (.bipush 14, 2) := by decide +kernel
theorem dX0_init_7 : decode cX0_init 7 = .ok (.newarray .int, 2) := by decide +kernel
theorem dX0_init_9 : decode cX0_init 9 = .ok (.putfield 9, 3) := by decide +kernel
theorem dX0_init_12 : decode cX0_init 12 = .ok (.aload_n 0, 1) := by decide +kernel
theorem dX0_init_13 : decode cX0_init 13 = .ok (.bipush 14, 2) := by decide +kernel
theorem dX0_init_15 : decode cX0_init 15 = .ok (.newarray .int, 2) := by decide +kernel
theorem dX0_init_17 : decode cX0_init 17 = .ok (.putfield 15, 3) := by decide +kernel
theorem dX0_init_20 : decode cX0_init 20 = .ok (.aload_n 0, 1) := by decide +kernel
theorem dX0_init_21 : decode cX0_init 21 = .ok (.bipush 14, 2) := by decide +kernel
theorem dX0_init_23 : decode cX0_init 23 = .ok (.newarray .int, 2) := by decide +kernel
theorem dX0_init_25 : decode cX0_init 25 = .ok (.putfield 18, 3) := by decide +kernel
theorem dX0_init_28 : decode cX0_init 28 = .ok (.aload_n 0, 1) := by decide +kernel
theorem dX0_init_29 : decode cX0_init 29 = .ok (.bipush 14, 2) := by decide +kernel
theorem dX0_init_31 : decode cX0_init 31 = .ok (.newarray .int, 2) := by decide +kernel
theorem dX0_init_33 : decode cX0_init 33 = .ok (.putfield 21, 3) := by decide +kernel
theorem dX0_init_36 : decode cX0_init 36 = .ok (.return_, 1) := by decide +kernel
theorem dX0_add_0 : decode cX0_add 0 = .ok (.aload_n 0, 1) := by decide +kernel
theorem dX0_add_1 : decode cX0_add 1 = .ok (.getfield 24, 3) := by decide +kernel
theorem dX0_add_4 : decode cX0_add 4 = .ok (.bipush 14, 2) := by decide +kernel
theorem dX0_add_6 : decode cX0_add 6 = .ok (.if_icmp .ne 26, 3) := by decide +kernel
theorem dX0_add_9 : decode cX0_add 9 = .ok (.aload_n 0, 1) := by decide +kernel
theorem dX0_add_10 : decode cX0_add 10 = .ok (.aload_n 0, 1) := by decide +kernel
theorem dX0_add_11 : decode cX0_add 11 = .ok (.getfield 28, 3) := by decide +kernel
theorem dX0_add_14 : decode cX0_add 14 = .ok (.iconst 1, 1) := by decide +kernel
theorem dX0_add_15 : decode cX0_add 15 = .ok (.iadd, 1) := by decide +kernel
theorem dX0_add_16 : decode cX0_add 16 = .ok (.bipush 14, 2) := by decide +kernel
theorem dX0_add_18 : decode cX0_add 18 = .ok (.irem, 1) := by decide +kernel
theorem dX0_add_19 : decode cX0_add 19 = .ok (.putfield 28, 3) := by decide +kernel
theorem dX0_add_22 : decode cX0_add 22 = .ok (.aload_n 0, 1) := by decide +kernel
theorem dX0_add_23 : decode cX0_add 23 = .ok (.dup, 1) := by decide +kernel
theorem dX0_add_24 : decode cX0_add 24 = .ok (.getfield 24, 3) := by decide +kernel
theorem dX0_add_27 : decode cX0_add 27 = .ok (.iconst 1, 1) := by decide +kernel
theorem dX0_add_28 : decode cX0_add 28 = .ok (.isub, 1) := by decide +kernel
theorem dX0_add_29 : decode cX0_add 29 = .ok (.putfield 24, 3) := by decide +kernel
theorem dX0_add_32 : decode cX0_add 32 = .ok (.aload_n 0, 1) := by decide +kernel
theorem dX0_add_33 : decode cX0_add 33 = .ok (.getfield 28, 3) := by decide +kernel
theorem dX0_add_36 : decode cX0_add 36 = .ok (.aload_n 0, 1) := by decide +kernel
theorem dX0_add_37 : decode cX0_add 37 = .ok (.getfield 24, 3) := by decide +kernel
theorem dX0_add_40 : decode cX0_add 40 = .ok (.iadd, 1) := by decide +kernel
theorem dX0_add_41 : decode cX0_add 41 = .ok (.bipush 14, 2) := by decide +kernel
theorem dX0_add_43 : decode cX0_add 43 = .ok (.irem, 1) := by decide +kernel
theorem dX0_add_44 : decode cX0_add 44 = .ok (.istore 5, 2) := by decide +kernel
theorem dX0_add_46 : decode cX0_add 46 = .ok (.aload_n 0, 1) := by decide +kernel
theorem dX0_add_47 : decode cX0_add 47 = .ok (.getfield 9, 3) := by decide +kernel
theorem dX0_add_50 : decode cX0_add 50 = .ok (.iload 5, 2) := by decide +kernel
theorem dX0_add_52 : decode cX0_add 52 = .ok (.iload_n 1, 1) := by decide +kernel
theorem dX0_add_53 : decode cX0_add 53 = .ok (.iastore, 1) := by decide +kernel
theorem dX0_add_54 : decode cX0_add 54 = .ok (.aload_n 0, 1) := by decide +kernel
theorem dX0_add_55 : decode cX0_add 55 = .ok (.getfield 15, 3) := by decide +kernel
theorem dX0_add_58 : decode cX0_add 58 = .ok (.iload 5, 2) := by decide +kernel
theorem dX0_add_60 : decode cX0_add 60 = .ok (.iload_n 2, 1) := by decide +kernel
theorem dX0_add_61 : decode cX0_add 61 = .ok (.iastore, 1) := by decide +kernel
theorem dX0_add_62 : decode cX0_add 62 = .ok (.aload_n 0, 1) := by decide +kernel
theorem dX0_add_63 : decode cX0_add 63 = .ok (.getfield 18, 3) := by decide +kernel
theorem dX0_add_66 : decode cX0_add 66 = .ok (.iload 5, 2) := by decide +kernel
theorem dX0_add_68 : decode cX0_add 68 = .ok (.iload_n 3, 1) := by decide +kernel
theorem dX0_add_69 : decode cX0_add 69 = .ok (.iastore, 1) := by decide +kernel
theorem dX0_add_70 : decode cX0_add 70 = .ok (.aload_n 0, 1) := by decide +kernel
theorem dX0_add_71 : decode cX0_add 71 = .ok (.getfield 21, 3) := by decide +kernel
theorem dX0_add_74 : decode cX0_add 74 = .ok (.iload 5, 2) := by decide +kernel
theorem dX0_add_76 : decode cX0_add 76 = .ok (.iload 4, 2) := by decide +kernel
theorem dX0_add_78 : decode cX0_add 78 = .ok (.iastore, 1) := by decide +kernel
theorem dX0_add_79 : decode cX0_add 79 = .ok (.aload_n 0, 1) := by decide +kernel
theorem dX0_add_80 : decode cX0_add 80 = .ok (.dup, 1) := by decide +kernel
theorem dX0_add_81 : decode cX0_add 81 = .ok (.getfield 24, 3) := by decide +kernel
theorem dX0_add_84 : decode cX0_add 84 = .ok (.iconst 1, 1) := by decide +kernel
theorem dX0_add_85 : decode cX0_add 85 = .ok (.iadd, 1) := by decide +kernel
theorem dX0_add_86 : decode cX0_add 86 = .ok (.putfield 24, 3) := by decide +kernel
theorem dX0_add_89 : decode cX0_add 89 = .ok (.return_, 1) := by decide +kernel
theorem dX0_takeBackLast_0 : decode cX0_takeBackLast 0 = .ok (.aload_n 0, 1) := by decide +kernel
theorem dX0_takeBackLast_1 : decode cX0_takeBackLast 1 = .ok (.getfield 24, 3) := by decide +kernel
theorem dX0_takeBackLast_4 : decode cX0_takeBackLast 4 = .ok (.ifCond .ne 4, 3) := by decide +kernel
theorem dX0_takeBackLast_7 : decode cX0_takeBackLast 7 = .ok (.return_, 1) := by decide +kernel
theorem dX0_takeBackLast_8 : decode cX0_takeBackLast 8 = .ok (.aload_n 0, 1) := by decide +kernel
theorem dX0_takeBackLast_9 : decode cX0_takeBackLast 9 = .ok (.dup, 1) := by decide +kernel
theorem dX0_takeBackLast_10 : decode cX0_takeBackLast 10 = .ok (.getfield 24, 3) := by decide +kernel
theorem dX0_takeBackLast_13 : decode cX0_takeBackLast 13 = .ok (.iconst 1, 1) := by decide +kernel
theorem dX0_takeBackLast_14 : decode cX0_takeBackLast 14 = .ok (.isub, 1) := by decide +kernel
theorem dX0_takeBackLast_15 : decode cX0_takeBackLast 15 = .ok (.putfield 24, 3) := by decide +kernel
theorem dX0_takeBackLast_18 : decode cX0_takeBackLast 18 = .ok (.aload_n 0, 1) := by decide +kernel
theorem dX0_takeBackLast_19 : decode cX0_takeBackLast 19 = .ok (.getfield 28, 3) := by decide +kernel
theorem dX0_takeBackLast_22 : decode cX0_takeBackLast 22 = .ok (.aload_n 0, 1) := by decide +kernel
theorem dX0_takeBackLast_23 : decode cX0_takeBackLast 23 = .ok (.getfield 24, 3) := by decide +kernel
theorem dX0_takeBackLast_26 : decode cX0_takeBackLast 26 = .ok (.iadd, 1) := by decide +kernel
theorem dX0_takeBackLast_27 : decode cX0_takeBackLast 27 = .ok (.bipush 14, 2) := by decide +kernel
theorem dX0_takeBackLast_29 : decode cX0_takeBackLast 29 = .ok (.irem, 1) := by decide +kernel
theorem dX0_takeBackLast_30 : decode cX0_takeBackLast 30 = .ok (.istore_n 2, 1) := by decide +kernel
theorem dX0_takeBackLast_31 : decode cX0_takeBackLast 31 = .ok (.aload_n 0, 1) := by decide +kernel
theorem dX0_takeBackLast_32 : decode cX0_takeBackLast 32 = .ok (.getfield 9, 3) := by decide +kernel
theorem dX0_takeBackLast_35 : decode cX0_takeBackLast 35 = .ok (.iload_n 2, 1) := by decide +kernel
theorem dX0_takeBackLast_36 : decode cX0_takeBackLast 36 = .ok (.iaload, 1) := by decide +kernel
theorem dX0_takeBackLast_37 : decode cX0_takeBackLast 37 = .ok (.tableswitch 96 1 3 #[27, 46, 71], 27) := by decide +kernel
theorem dX0_takeBackLast_64 : decode cX0_takeBackLast 64 = .ok (.aload_n 1, 1) := by decide +kernel
theorem dX0_takeBackLast_65 : decode cX0_takeBackLast 65 = .ok (.aload_n 0, 1) := by decide +kernel
theorem dX0_takeBackLast_66 : decode cX0_takeBackLast 66 = .ok (.getfield 15, 3) := by decide +kernel
theorem dX0_takeBackLast_69 : decode cX0_takeBackLast 69 = .ok (.iload_n 2, 1) := by decide +kernel
theorem dX0_takeBackLast_70 : decode cX0_takeBackLast 70 = .ok (.iaload, 1) := by decide +kernel
theorem dX0_takeBackLast_71 : decode cX0_takeBackLast 71 = .ok (.aload_n 0, 1) := by decide +kernel
theorem dX0_takeBackLast_72 : decode cX0_takeBackLast 72 = .ok (.getfield 18, 3) := by decide +kernel
theorem dX0_takeBackLast_75 : decode cX0_takeBackLast 75 = .ok (.iload_n 2, 1) := by decide +kernel
theorem dX0_takeBackLast_76 : decode cX0_takeBackLast 76 = .ok (.iaload, 1) := by decide +kernel
theorem dX0_takeBackLast_77 : decode cX0_takeBackLast 77 = .ok (.invokevirtual 31, 3) := by decide +kernel
theorem dX0_takeBackLast_80 : decode cX0_takeBackLast 80 = .ok (.goto 53, 3) := by decide +kernel
theorem dX0_takeBackLast_83 : decode cX0_takeBackLast 83 = .ok (.aload_n 1, 1) := by decide +kernel
theorem dX0_takeBackLast_84 : decode cX0_takeBackLast 84 = .ok (.aload_n 0, 1) := by decide +kernel
theorem dX0_takeBackLast_85 : decode cX0_takeBackLast 85 = .ok (.getfield 15, 3) := by decide +kernel
theorem dX0_takeBackLast_88 : decode cX0_takeBackLast 88 = .ok (.iload_n 2, 1) := by decide +kernel
theorem dX0_takeBackLast_89 : decode cX0_takeBackLast 89 = .ok (.iaload, 1) := by decide +kernel
theorem dX0_takeBackLast_90 : decode cX0_takeBackLast 90 = .ok (.aload_n 0, 1) := by decide +kernel
theorem dX0_takeBackLast_91 : decode cX0_takeBackLast 91 = .ok (.getfield 18, 3) := by decide +kernel
theorem dX0_takeBackLast_94 : decode cX0_takeBackLast 94 = .ok (.iload_n 2, 1) := by decide +kernel
theorem dX0_takeBackLast_95 : decode cX0_takeBackLast 95 = .ok (.iaload, 1) := by decide +kernel
theorem dX0_takeBackLast_96 : decode cX0_takeBackLast 96 = .ok (.aload_n 0, 1) := by decide +kernel
theorem dX0_takeBackLast_97 : decode cX0_takeBackLast 97 = .ok (.getfield 21, 3) := by decide +kernel
theorem dX0_takeBackLast_100 : decode cX0_takeBackLast 100 = .ok (.iload_n 2, 1) := by decide +kernel
theorem dX0_takeBackLast_101 : decode cX0_takeBackLast 101 = .ok (.iaload, 1) := by decide +kernel
theorem dX0_takeBackLast_102 : decode cX0_takeBackLast 102 = .ok (.invokevirtual 37, 3) := by decide +kernel
theorem dX0_takeBackLast_105 : decode cX0_takeBackLast 105 = .ok (.goto 28, 3) := by decide +kernel
theorem dX0_takeBackLast_108 : decode cX0_takeBackLast 108 = .ok (.aload_n 1, 1) := by decide +kernel
theorem dX0_takeBackLast_109 : decode cX0_takeBackLast 109 = .ok (.aload_n 0, 1) := by decide +kernel
theorem dX0_takeBackLast_110 : decode cX0_takeBackLast 110 = .ok (.getfield 15, 3) := by decide +kernel
theorem dX0_takeBackLast_113 : decode cX0_takeBackLast 113 = .ok (.iload_n 2, 1) := by decide +kernel
theorem dX0_takeBackLast_114 : decode cX0_takeBackLast 114 = .ok (.iaload, 1) := by decide +kernel
theorem dX0_takeBackLast_115 : decode cX0_takeBackLast 115 = .ok (.aload_n 0, 1) := by decide +kernel
theorem dX0_takeBackLast_116 : decode cX0_takeBackLast 116 = .ok (.getfield 18, 3) := by decide +kernel
theorem dX0_takeBackLast_119 : decode cX0_takeBackLast 119 = .ok (.iload_n 2, 1) := by decide +kernel
theorem dX0_takeBackLast_120 : decode cX0_takeBackLast 120 = .ok (.iaload, 1) := by decide +kernel
theorem dX0_takeBackLast_121 : decode cX0_takeBackLast 121 = .ok (.aload_n 0, 1) := by decide +kernel
theorem dX0_takeBackLast_122 : decode cX0_takeBackLast 122 = .ok (.getfield 21, 3) := by decide +kernel
theorem dX0_takeBackLast_125 : decode cX0_takeBackLast 125 = .ok (.iload_n 2, 1) := by decide +kernel
theorem dX0_takeBackLast_126 : decode cX0_takeBackLast 126 = .ok (.iaload, 1) := by decide +kernel
theorem dX0_takeBackLast_127 : decode cX0_takeBackLast 127 = .ok (.invokevirtual 41, 3) := by decide +kernel
theorem dX0_takeBackLast_130 : decode cX0_takeBackLast 130 = .ok (.goto 3, 3) := by decide +kernel
theorem dX0_takeBackLast_133 : decode cX0_takeBackLast 133 = .ok (.return_, 1) := by decide +kernel
theorem dX1_init_0 : decode cX1_init 0 = .ok (.aload_n 0, 1) := by decide +kernel
theorem dX1_init_1 : decode cX1_init 1 = .ok (.invokespecial 3, 3) := by decide +kernel
theorem dX1_init_4 : decode cX1_init 4 = .ok (.aload_n 0, 1) := by decide +kernel
theorem dX1_init_5 : decode cX1_init 5 = .ok (.bipush 6, 2) := by decide +kernel
theorem dX1_init_7 : decode cX1_init 7 = .ok (.newarray .int, 2) := by decide +kernel
theorem dX1_init_9 : decode cX1_init 9 = .ok (.putfield 9, 3) := by decide +kernel
theorem dX1_init_12 : decode cX1_init 12 = .ok (.aload_n 0, 1) := by decide +kernel
theorem dX1_init_13 : decode cX1_init 13 = .ok (.bipush 6, 2) := by decide +kernel
theorem dX1_init_15 : decode cX1_init 15 = .ok (.newarray .int, 2) := by decide +kernel
theorem dX1_init_17 : decode cX1_init 17 = .ok (.putfield 15, 3) := by decide +kernel
theorem dX1_init_20 : decode cX1_init 20 = .ok (.aload_n 0, 1) := by decide +kernel
theorem dX1_init_21 : decode cX1_init 21 = .ok (.bipush 6, 2) := by decide +kernel
theorem dX1_init_23 : decode cX1_init 23 = .ok (.newarray .int, 2) := by decide +kernel
theorem dX1_init_25 : decode cX1_init 25 = .ok (.putfield 18, 3) := by decide +kernel
theorem dX1_init_28 : decode cX1_init 28 = .ok (.aload_n 0, 1) := by decide +kernel
theorem dX1_init_29 : decode cX1_init 29 = .ok (.bipush 6, 2) := by decide +kernel
theorem dX1_init_31 : decode cX1_init 31 = .ok (.newarray .boolean, 2) := by decide +kernel
theorem dX1_init_33 : decode cX1_init 33 = .ok (.putfield 21, 3) := by decide +kernel
theorem dX1_init_36 : decode cX1_init 36 = .ok (.return_, 1) := by decide +kernel
theorem dX1_add_0 : decode cX1_add 0 = .ok (.aload_n 0, 1) := by decide +kernel
theorem dX1_add_1 : decode cX1_add 1 = .ok (.getfield 25, 3) := by decide +kernel
theorem dX1_add_4 : decode cX1_add 4 = .ok (.bipush 6, 2) := by decide +kernel
theorem dX1_add_6 : decode cX1_add 6 = .ok (.if_icmp .lt 5, 3) := by decide +kernel
theorem dX1_add_9 : decode cX1_add 9 = .ok (.iconst 0, 1) := by decide +kernel
theorem dX1_add_10 : decode cX1_add 10 = .ok (.ireturn, 1) := by decide +kernel
theorem dX1_add_11 : decode cX1_add 11 = .ok (.aload_n 0, 1) := by decide +kernel
theorem dX1_add_12 : decode cX1_add 12 = .ok (.getfield 9, 3) := by decide +kernel
theorem dX1_add_15 : decode cX1_add 15 = .ok (.aload_n 0, 1) := by decide +kernel
theorem dX1_add_16 : decode cX1_add 16 = .ok (.getfield 25, 3) := by decide +kernel
theorem dX1_add_19 : decode cX1_add 19 = .ok (.iload_n 1, 1) := by decide +kernel
theorem dX1_add_20 : decode cX1_add 20 = .ok (.iastore, 1) := by decide +kernel
theorem dX1_add_21 : decode cX1_add 21 = .ok (.aload_n 0, 1) := by decide +kernel
theorem dX1_add_22 : decode cX1_add 22 = .ok (.getfield 15, 3) := by decide +kernel
theorem dX1_add_25 : decode cX1_add 25 = .ok (.aload_n 0, 1) := by decide +kernel
theorem dX1_add_26 : decode cX1_add 26 = .ok (.getfield 25, 3) := by decide +kernel
theorem dX1_add_29 : decode cX1_add 29 = .ok (.iload_n 2, 1) := by decide +kernel
theorem dX1_add_30 : decode cX1_add 30 = .ok (.iastore, 1) := by decide +kernel
theorem dX1_add_31 : decode cX1_add 31 = .ok (.aload_n 0, 1) := by decide +kernel
theorem dX1_add_32 : decode cX1_add 32 = .ok (.getfield 18, 3) := by decide +kernel
theorem dX1_add_35 : decode cX1_add 35 = .ok (.aload_n 0, 1) := by decide +kernel
theorem dX1_add_36 : decode cX1_add 36 = .ok (.getfield 25, 3) := by decide +kernel
theorem dX1_add_39 : decode cX1_add 39 = .ok (.iload_n 3, 1) := by decide +kernel
theorem dX1_add_40 : decode cX1_add 40 = .ok (.iastore, 1) := by decide +kernel
theorem dX1_add_41 : decode cX1_add 41 = .ok (.aload_n 0, 1) := by decide +kernel
theorem dX1_add_42 : decode cX1_add 42 = .ok (.getfield 21, 3) := by decide +kernel
theorem dX1_add_45 : decode cX1_add 45 = .ok (.aload_n 0, 1) := by decide +kernel
theorem dX1_add_46 : decode cX1_add 46 = .ok (.getfield 25, 3) := by decide +kernel
theorem dX1_add_49 : decode cX1_add 49 = .ok (.iload 4, 2) := by decide +kernel
theorem dX1_add_51 : decode cX1_add 51 = .ok (.bastore, 1) := by decide +kernel
theorem dX1_add_52 : decode cX1_add 52 = .ok (.aload_n 0, 1) := by decide +kernel
theorem dX1_add_53 : decode cX1_add 53 = .ok (.dup, 1) := by decide +kernel
theorem dX1_add_54 : decode cX1_add 54 = .ok (.getfield 25, 3) := by decide +kernel
theorem dX1_add_57 : decode cX1_add 57 = .ok (.iconst 1, 1) := by decide +kernel
theorem dX1_add_58 : decode cX1_add 58 = .ok (.iadd, 1) := by decide +kernel
theorem dX1_add_59 : decode cX1_add 59 = .ok (.putfield 25, 3) := by decide +kernel
theorem dX1_add_62 : decode cX1_add 62 = .ok (.iconst 1, 1) := by decide +kernel
theorem dX1_add_63 : decode cX1_add 63 = .ok (.ireturn, 1) := by decide +kernel
theorem dX1_agreeWith_0 : decode cX1_agreeWith 0 = .ok (.iconst 0, 1) := by decide +kernel
theorem dX1_agreeWith_1 : decode cX1_agreeWith 1 = .ok (.istore 4, 2) := by decide +kernel
theorem dX1_agreeWith_3 : decode cX1_agreeWith 3 = .ok (.iload 4, 2) := by decide +kernel
theorem dX1_agreeWith_5 : decode cX1_agreeWith 5 = .ok (.aload_n 0, 1) := by decide +kernel
theorem dX1_agreeWith_6 : decode cX1_agreeWith 6 = .ok (.getfield 25, 3) := by decide +kernel
theorem dX1_agreeWith_9 : decode cX1_agreeWith 9 = .ok (.if_icmp .ge 92, 3) := by decide +kernel
theorem dX1_agreeWith_12 : decode cX1_agreeWith 12 = .ok (.aload_n 2, 1) := by decide +kernel
theorem dX1_agreeWith_13 : decode cX1_agreeWith 13 = .ok (.aload_n 0, 1) := by decide +kernel
theorem dX1_agreeWith_14 : decode cX1_agreeWith 14 = .ok (.getfield 9, 3) := by decide +kernel
theorem dX1_agreeWith_17 : decode cX1_agreeWith 17 = .ok (.iload 4, 2) := by decide +kernel
theorem dX1_agreeWith_19 : decode cX1_agreeWith 19 = .ok (.iaload, 1) := by decide +kernel
theorem dX1_agreeWith_20 : decode cX1_agreeWith 20 = .ok (.invokevirtual 29, 3) := by decide +kernel
theorem dX1_agreeWith_23 : decode cX1_agreeWith 23 = .ok (.ifCond .eq 30, 3) := by decide +kernel
theorem dX1_agreeWith_26 : decode cX1_agreeWith 26 = .ok (.aload_n 3, 1) := by decide +kernel
theorem dX1_agreeWith_27 : decode cX1_agreeWith 27 = .ok (.iload_n 1, 1) := by decide +kernel
theorem dX1_agreeWith_28 : decode cX1_agreeWith 28 = .ok (.aload_n 2, 1) := by decide +kernel
theorem dX1_agreeWith_29 : decode cX1_agreeWith 29 = .ok (.getfield 35, 3) := by decide +kernel
theorem dX1_agreeWith_32 : decode cX1_agreeWith 32 = .ok (.aload_n 0, 1) := by decide +kernel
theorem dX1_agreeWith_33 : decode cX1_agreeWith 33 = .ok (.getfield 9, 3) := by decide +kernel
theorem dX1_agreeWith_36 : decode cX1_agreeWith 36 = .ok (.iload 4, 2) := by decide +kernel
theorem dX1_agreeWith_38 : decode cX1_agreeWith 38 = .ok (.iaload, 1) := by decide +kernel
theorem dX1_agreeWith_39 : decode cX1_agreeWith 39 = .ok (.iaload, 1) := by decide +kernel
theorem dX1_agreeWith_40 : decode cX1_agreeWith 40 = .ok (.invokestatic 36, 3) := by decide +kernel
theorem dX1_agreeWith_43 : decode cX1_agreeWith 43 = .ok (.aload_n 3, 1) := by decide +kernel
theorem dX1_agreeWith_44 : decode cX1_agreeWith 44 = .ok (.getfield 42, 3) := by decide +kernel
theorem dX1_agreeWith_47 : decode cX1_agreeWith 47 = .ok (.invokevirtual 47, 3) := by decide +kernel
theorem dX1_agreeWith_50 : decode cX1_agreeWith 50 = .ok (.goto 4, 3) := by decide +kernel
theorem dX1_agreeWith_53 : decode cX1_agreeWith 53 = .ok (.iconst 0, 1) := by decide +kernel
theorem dX1_agreeWith_54 : decode cX1_agreeWith 54 = .ok (.istore 5, 2) := by decide +kernel
theorem dX1_agreeWith_56 : decode cX1_agreeWith 56 = .ok (.iload 5, 2) := by decide +kernel
theorem dX1_agreeWith_58 : decode cX1_agreeWith 58 = .ok (.aload_n 0, 1) := by decide +kernel
theorem dX1_agreeWith_59 : decode cX1_agreeWith 59 = .ok (.getfield 15, 3) := by decide +kernel
theorem dX1_agreeWith_62 : decode cX1_agreeWith 62 = .ok (.iload 4, 2) := by decide +kernel
theorem dX1_agreeWith_64 : decode cX1_agreeWith 64 = .ok (.iaload, 1) := by decide +kernel
theorem dX1_agreeWith_65 : decode cX1_agreeWith 65 = .ok (.invokestatic 50, 3) := by decide +kernel
theorem dX1_agreeWith_68 : decode cX1_agreeWith 68 = .ok (.aload_n 0, 1) := by decide +kernel
theorem dX1_agreeWith_69 : decode cX1_agreeWith 69 = .ok (.getfield 18, 3) := by decide +kernel
theorem dX1_agreeWith_72 : decode cX1_agreeWith 72 = .ok (.iload 4, 2) := by decide +kernel
theorem dX1_agreeWith_74 : decode cX1_agreeWith 74 = .ok (.iaload, 1) := by decide +kernel
theorem dX1_agreeWith_75 : decode cX1_agreeWith 75 = .ok (.if_icmp .ne 7, 3) := by decide +kernel
theorem dX1_agreeWith_78 : decode cX1_agreeWith 78 = .ok (.iconst 1, 1) := by decide +kernel
theorem dX1_agreeWith_79 : decode cX1_agreeWith 79 = .ok (.goto 4, 3) := by decide +kernel
theorem dX1_agreeWith_82 : decode cX1_agreeWith 82 = .ok (.iconst 0, 1) := by decide +kernel
theorem dX1_agreeWith_83 : decode cX1_agreeWith 83 = .ok (.aload_n 0, 1) := by decide +kernel
theorem dX1_agreeWith_84 : decode cX1_agreeWith 84 = .ok (.getfield 21, 3) := by decide +kernel
theorem dX1_agreeWith_87 : decode cX1_agreeWith 87 = .ok (.iload 4, 2) := by decide +kernel
theorem dX1_agreeWith_89 : decode cX1_agreeWith 89 = .ok (.baload, 1) := by decide +kernel
theorem dX1_agreeWith_90 : decode cX1_agreeWith 90 = .ok (.if_icmp .eq 5, 3) := by decide +kernel
theorem dX1_agreeWith_93 : decode cX1_agreeWith 93 = .ok (.iconst 0, 1) := by decide +kernel
theorem dX1_agreeWith_94 : decode cX1_agreeWith 94 = .ok (.ireturn, 1) := by decide +kernel
theorem dX1_agreeWith_95 : decode cX1_agreeWith 95 = .ok (.iinc 4 1, 3) := by decide +kernel
theorem dX1_agreeWith_98 : decode cX1_agreeWith 98 = .ok (.goto (-95), 3) := by decide +kernel
theorem dX1_agreeWith_101 : decode cX1_agreeWith 101 = .ok (.iconst 1, 1) := by decide +kernel
theorem dX1_agreeWith_102 : decode cX1_agreeWith 102 = .ok (.ireturn, 1) := by decide +kernel
theorem dX2_init_0 : decode cX2_init 0 = .ok (.aload_n 0, 1) := by decide +kernel
theorem dX2_init_1 : decode cX2_init 1 = .ok (.invokespecial 3, 3) := by decide +kernel
theorem dX2_init_4 : decode cX2_init 4 = .ok (.aload_n 0, 1) := by decide +kernel
theorem dX2_init_5 : decode cX2_init 5 = .ok (.iconst 4, 1) := by decide +kernel
theorem dX2_init_6 : decode cX2_init 6 = .ok (.newarray .int, 2) := by decide +kernel
theorem dX2_init_8 : decode cX2_init 8 = .ok (.putfield 9, 3) := by decide +kernel
theorem dX2_init_11 : decode cX2_init 11 = .ok (.aload_n 0, 1) := by decide +kernel
theorem dX2_init_12 : decode cX2_init 12 = .ok (.iconst 3, 1) := by decide +kernel
theorem dX2_init_13 : decode cX2_init 13 = .ok (.newarray .int, 2) := by decide +kernel
theorem dX2_init_15 : decode cX2_init 15 = .ok (.putfield 15, 3) := by decide +kernel
theorem dX2_init_18 : decode cX2_init 18 = .ok (.return_, 1) := by decide +kernel
theorem dX2_takeFrom_0 : decode cX2_takeFrom 0 = .ok (.aload_n 1, 1) := by decide +kernel
theorem dX2_takeFrom_1 : decode cX2_takeFrom 1 = .ok (.getfield 18, 3) := by decide +kernel
theorem dX2_takeFrom_4 : decode cX2_takeFrom 4 = .ok (.iconst 0, 1) := by decide +kernel
theorem dX2_takeFrom_5 : decode cX2_takeFrom 5 = .ok (.aload_n 0, 1) := by decide +kernel
theorem dX2_takeFrom_6 : decode cX2_takeFrom 6 = .ok (.getfield 9, 3) := by decide +kernel
theorem dX2_takeFrom_9 : decode cX2_takeFrom 9 = .ok (.iconst 0, 1) := by decide +kernel
theorem dX2_takeFrom_10 : decode cX2_takeFrom 10 = .ok (.iconst 4, 1) := by decide +kernel
theorem dX2_takeFrom_11 : decode cX2_takeFrom 11 = .ok (.invokestatic 21, 3) := by decide +kernel
theorem dX2_takeFrom_14 : decode cX2_takeFrom 14 = .ok (.aload_n 1, 1) := by decide +kernel
theorem dX2_takeFrom_15 : decode cX2_takeFrom 15 = .ok (.getfield 27, 3) := by decide +kernel
theorem dX2_takeFrom_18 : decode cX2_takeFrom 18 = .ok (.iconst 0, 1) := by decide +kernel
theorem dX2_takeFrom_19 : decode cX2_takeFrom 19 = .ok (.aload_n 0, 1) := by decide +kernel
theorem dX2_takeFrom_20 : decode cX2_takeFrom 20 = .ok (.getfield 15, 3) := by decide +kernel
theorem dX2_takeFrom_23 : decode cX2_takeFrom 23 = .ok (.iconst 0, 1) := by decide +kernel
theorem dX2_takeFrom_24 : decode cX2_takeFrom 24 = .ok (.iconst 3, 1) := by decide +kernel
theorem dX2_takeFrom_25 : decode cX2_takeFrom 25 = .ok (.invokestatic 21, 3) := by decide +kernel
theorem dX2_takeFrom_28 : decode cX2_takeFrom 28 = .ok (.aload_n 0, 1) := by decide +kernel
theorem dX2_takeFrom_29 : decode cX2_takeFrom 29 = .ok (.aload_n 1, 1) := by decide +kernel
theorem dX2_takeFrom_30 : decode cX2_takeFrom 30 = .ok (.getfield 28, 3) := by decide +kernel
theorem dX2_takeFrom_33 : decode cX2_takeFrom 33 = .ok (.putfield 32, 3) := by decide +kernel
theorem dX2_takeFrom_36 : decode cX2_takeFrom 36 = .ok (.aload_n 0, 1) := by decide +kernel
theorem dX2_takeFrom_37 : decode cX2_takeFrom 37 = .ok (.aload_n 1, 1) := by decide +kernel
theorem dX2_takeFrom_38 : decode cX2_takeFrom 38 = .ok (.getfield 33, 3) := by decide +kernel
theorem dX2_takeFrom_41 : decode cX2_takeFrom 41 = .ok (.putfield 36, 3) := by decide +kernel
theorem dX2_takeFrom_44 : decode cX2_takeFrom 44 = .ok (.return_, 1) := by decide +kernel
theorem dX2_hasRoot_0 : decode cX2_hasRoot 0 = .ok (.iload_n 1, 1) := by decide +kernel
theorem dX2_hasRoot_1 : decode cX2_hasRoot 1 = .ok (.ifCond .lt 15, 3) := by decide +kernel
theorem dX2_hasRoot_4 : decode cX2_hasRoot 4 = .ok (.iload_n 1, 1) := by decide +kernel
theorem dX2_hasRoot_5 : decode cX2_hasRoot 5 = .ok (.aload_n 0, 1) := by decide +kernel
theorem dX2_hasRoot_6 : decode cX2_hasRoot 6 = .ok (.getfield 32, 3) := by decide +kernel
theorem dX2_hasRoot_9 : decode cX2_hasRoot 9 = .ok (.if_icmp .ge 7, 3) := by decide +kernel
theorem dX2_hasRoot_12 : decode cX2_hasRoot 12 = .ok (.iconst 1, 1) := by decide +kernel
theorem dX2_hasRoot_13 : decode cX2_hasRoot 13 = .ok (.goto 4, 3) := by decide +kernel
theorem dX2_hasRoot_16 : decode cX2_hasRoot 16 = .ok (.iconst 0, 1) := by decide +kernel
theorem dX2_hasRoot_17 : decode cX2_hasRoot 17 = .ok (.ireturn, 1) := by decide +kernel
theorem dX2_hasEnding_0 : decode cX2_hasEnding 0 = .ok (.iload_n 1, 1) := by decide +kernel
theorem dX2_hasEnding_1 : decode cX2_hasEnding 1 = .ok (.ifCond .lt 15, 3) := by decide +kernel
theorem dX2_hasEnding_4 : decode cX2_hasEnding 4 = .ok (.iload_n 1, 1) := by decide +kernel
theorem dX2_hasEnding_5 : decode cX2_hasEnding 5 = .ok (.aload_n 0, 1) := by decide +kernel
theorem dX2_hasEnding_6 : decode cX2_hasEnding 6 = .ok (.getfield 36, 3) := by decide +kernel
theorem dX2_hasEnding_9 : decode cX2_hasEnding 9 = .ok (.if_icmp .ge 7, 3) := by decide +kernel
theorem dX2_hasEnding_12 : decode cX2_hasEnding 12 = .ok (.iconst 1, 1) := by decide +kernel
theorem dX2_hasEnding_13 : decode cX2_hasEnding 13 = .ok (.goto 4, 3) := by decide +kernel
theorem dX2_hasEnding_16 : decode cX2_hasEnding 16 = .ok (.iconst 0, 1) := by decide +kernel
theorem dX2_hasEnding_17 : decode cX2_hasEnding 17 = .ok (.ireturn, 1) := by decide +kernel
theorem dX2_hasPair_0 : decode cX2_hasPair 0 = .ok (.aload_n 0, 1) := by decide +kernel
theorem dX2_hasPair_1 : decode cX2_hasPair 1 = .ok (.iload_n 1, 1) := by decide +kernel
theorem dX2_hasPair_2 : decode cX2_hasPair 2 = .ok (.invokevirtual 37, 3) := by decide +kernel
theorem dX2_hasPair_5 : decode cX2_hasPair 5 = .ok (.ifCond .eq 15, 3) := by decide +kernel
theorem dX2_hasPair_8 : decode cX2_hasPair 8 = .ok (.aload_n 0, 1) := by decide +kernel
theorem dX2_hasPair_9 : decode cX2_hasPair 9 = .ok (.iload_n 2, 1) := by decide +kernel
theorem dX2_hasPair_10 : decode cX2_hasPair 10 = .ok (.invokevirtual 41, 3) := by decide +kernel
theorem dX2_hasPair_13 : decode cX2_hasPair 13 = .ok (.ifCond .eq 7, 3) := by decide +kernel
theorem dX2_hasPair_16 : decode cX2_hasPair 16 = .ok (.iconst 1, 1) := by decide +kernel
theorem dX2_hasPair_17 : decode cX2_hasPair 17 = .ok (.goto 4, 3) := by decide +kernel
theorem dX2_hasPair_20 : decode cX2_hasPair 20 = .ok (.iconst 0, 1) := by decide +kernel
theorem dX2_hasPair_21 : decode cX2_hasPair 21 = .ok (.ireturn, 1) := by decide +kernel
theorem dX2_joined_0 : decode cX2_joined 0 = .ok (.aload_n 0, 1) := by decide +kernel
theorem dX2_joined_1 : decode cX2_joined 1 = .ok (.getfield 9, 3) := by decide +kernel
theorem dX2_joined_4 : decode cX2_joined 4 = .ok (.iload_n 1, 1) := by decide +kernel
theorem dX2_joined_5 : decode cX2_joined 5 = .ok (.iaload, 1) := by decide +kernel
theorem dX2_joined_6 : decode cX2_joined 6 = .ok (.aload_n 0, 1) := by decide +kernel
theorem dX2_joined_7 : decode cX2_joined 7 = .ok (.getfield 15, 3) := by decide +kernel
theorem dX2_joined_10 : decode cX2_joined 10 = .ok (.iload_n 2, 1) := by decide +kernel
theorem dX2_joined_11 : decode cX2_joined 11 = .ok (.iaload, 1) := by decide +kernel
theorem dX2_joined_12 : decode cX2_joined 12 = .ok (.invokestatic 44, 3) := by decide +kernel
theorem dX2_joined_15 : decode cX2_joined 15 = .ok (.ireturn, 1) := by decide +kernel
theorem dX3_init_0 : decode cX3_init 0 = .ok (.aload_n 0, 1) := by decide +kernel
theorem dX3_init_1 : decode cX3_init 1 = .ok (.invokespecial 3, 3) := by decide +kernel
theorem dX3_init_4 : decode cX3_init 4 = .ok (.aload_n 0, 1) := by decide +kernel
theorem dX3_init_5 : decode cX3_init 5 = .ok (.bipush 60, 2) := by decide +kernel
theorem dX3_init_7 : decode cX3_init 7 = .ok (.newarray .int, 2) := by decide +kernel
theorem dX3_init_9 : decode cX3_init 9 = .ok (.putfield 9, 3) := by decide +kernel
theorem dX3_init_12 : decode cX3_init 12 = .ok (.aload_n 0, 1) := by decide +kernel
theorem dX3_init_13 : decode cX3_init 13 = .ok (.iconst 4, 1) := by decide +kernel
theorem dX3_init_14 : decode cX3_init 14 = .ok (.newarray .int, 2) := by decide +kernel
theorem dX3_init_16 : decode cX3_init 16 = .ok (.putfield 15, 3) := by decide +kernel
theorem dX3_init_19 : decode cX3_init 19 = .ok (.aload_n 0, 1) := by decide +kernel
theorem dX3_init_20 : decode cX3_init 20 = .ok (.iconst 3, 1) := by decide +kernel
theorem dX3_init_21 : decode cX3_init 21 = .ok (.newarray .int, 2) := by decide +kernel
theorem dX3_init_23 : decode cX3_init 23 = .ok (.putfield 18, 3) := by decide +kernel
theorem dX3_init_26 : decode cX3_init 26 = .ok (.aload_n 0, 1) := by decide +kernel
theorem dX3_init_27 : decode cX3_init 27 = .ok (.bipush 16, 2) := by decide +kernel
theorem dX3_init_29 : decode cX3_init 29 = .ok (.newarray .int, 2) := by decide +kernel
theorem dX3_init_31 : decode cX3_init 31 = .ok (.putfield 21, 3) := by decide +kernel
theorem dX3_init_34 : decode cX3_init 34 = .ok (.return_, 1) := by decide +kernel
theorem dX3_append_0 : decode cX3_append 0 = .ok (.aload_n 0, 1) := by decide +kernel
theorem dX3_append_1 : decode cX3_append 1 = .ok (.getfield 24, 3) := by decide +kernel
theorem dX3_append_4 : decode cX3_append 4 = .ok (.bipush 60, 2) := by decide +kernel
theorem dX3_append_6 : decode cX3_append 6 = .ok (.if_icmp .lt 5, 3) := by decide +kernel
theorem dX3_append_9 : decode cX3_append 9 = .ok (.iconst 0, 1) := by decide +kernel
theorem dX3_append_10 : decode cX3_append 10 = .ok (.ireturn, 1) := by decide +kernel
theorem dX3_append_11 : decode cX3_append 11 = .ok (.aload_n 0, 1) := by decide +kernel
theorem dX3_append_12 : decode cX3_append 12 = .ok (.getfield 9, 3) := by decide +kernel
theorem dX3_append_15 : decode cX3_append 15 = .ok (.aload_n 0, 1) := by decide +kernel
theorem dX3_append_16 : decode cX3_append 16 = .ok (.getfield 24, 3) := by decide +kernel
theorem dX3_append_19 : decode cX3_append 19 = .ok (.iload_n 1, 1) := by decide +kernel
theorem dX3_append_20 : decode cX3_append 20 = .ok (.iastore, 1) := by decide +kernel
theorem dX3_append_21 : decode cX3_append 21 = .ok (.aload_n 0, 1) := by decide +kernel
theorem dX3_append_22 : decode cX3_append 22 = .ok (.dup, 1) := by decide +kernel
theorem dX3_append_23 : decode cX3_append 23 = .ok (.getfield 24, 3) := by decide +kernel
theorem dX3_append_26 : decode cX3_append 26 = .ok (.iconst 1, 1) := by decide +kernel
theorem dX3_append_27 : decode cX3_append 27 = .ok (.iadd, 1) := by decide +kernel
theorem dX3_append_28 : decode cX3_append 28 = .ok (.putfield 24, 3) := by decide +kernel
theorem dX3_append_31 : decode cX3_append 31 = .ok (.iconst 1, 1) := by decide +kernel
theorem dX3_append_32 : decode cX3_append 32 = .ok (.ireturn, 1) := by decide +kernel
theorem dX3_read_0 : decode cX3_read 0 = .ok (.aload_n 0, 1) := by decide +kernel
theorem dX3_read_1 : decode cX3_read 1 = .ok (.invokevirtual 28, 3) := by decide +kernel
theorem dX3_read_4 : decode cX3_read 4 = .ok (.iconst 0, 1) := by decide +kernel
theorem dX3_read_5 : decode cX3_read 5 = .ok (.istore_n 1, 1) := by decide +kernel
theorem dX3_read_6 : decode cX3_read 6 = .ok (.iload_n 1, 1) := by decide +kernel
theorem dX3_read_7 : decode cX3_read 7 = .ok (.aload_n 0, 1) := by decide +kernel
theorem dX3_read_8 : decode cX3_read 8 = .ok (.getfield 24, 3) := by decide +kernel
theorem dX3_read_11 : decode cX3_read 11 = .ok (.if_icmp .ge 104, 3) := by decide +kernel
theorem dX3_read_14 : decode cX3_read 14 = .ok (.aload_n 0, 1) := by decide +kernel
theorem dX3_read_15 : decode cX3_read 15 = .ok (.invokevirtual 31, 3) := by decide +kernel
theorem dX3_read_18 : decode cX3_read 18 = .ok (.ifCond .ne 22, 3) := by decide +kernel
theorem dX3_read_21 : decode cX3_read 21 = .ok (.aload_n 0, 1) := by decide +kernel
theorem dX3_read_22 : decode cX3_read 22 = .ok (.invokevirtual 35, 3) := by decide +kernel
theorem dX3_read_25 : decode cX3_read 25 = .ok (.ifCond .eq 19, 3) := by decide +kernel
theorem dX3_read_28 : decode cX3_read 28 = .ok (.aload_n 0, 1) := by decide +kernel
theorem dX3_read_29 : decode cX3_read 29 = .ok (.getfield 9, 3) := by decide +kernel
theorem dX3_read_32 : decode cX3_read 32 = .ok (.iload_n 1, 1) := by decide +kernel
theorem dX3_read_33 : decode cX3_read 33 = .ok (.iaload, 1) := by decide +kernel
theorem dX3_read_34 : decode cX3_read 34 = .ok (.invokestatic 38, 3) := by decide +kernel
theorem dX3_read_37 : decode cX3_read 37 = .ok (.ifCond .eq 7, 3) := by decide +kernel
theorem dX3_read_40 : decode cX3_read 40 = .ok (.iconst 1, 1) := by decide +kernel
theorem dX3_read_41 : decode cX3_read 41 = .ok (.goto 4, 3) := by decide +kernel
theorem dX3_read_44 : decode cX3_read 44 = .ok (.iconst 0, 1) := by decide +kernel
theorem dX3_read_45 : decode cX3_read 45 = .ok (.istore_n 2, 1) := by decide +kernel
theorem dX3_read_46 : decode cX3_read 46 = .ok (.iload_n 2, 1) := by decide +kernel
theorem dX3_read_47 : decode cX3_read 47 = .ok (.ifCond .eq 12, 3) := by decide +kernel
theorem dX3_read_50 : decode cX3_read 50 = .ok (.aload_n 0, 1) := by decide +kernel
theorem dX3_read_51 : decode cX3_read 51 = .ok (.getfield 42, 3) := by decide +kernel
theorem dX3_read_54 : decode cX3_read 54 = .ok (.iconst 1, 1) := by decide +kernel
theorem dX3_read_55 : decode cX3_read 55 = .ok (.isub, 1) := by decide +kernel
theorem dX3_read_56 : decode cX3_read 56 = .ok (.goto 7, 3) := by decide +kernel
theorem dX3_read_59 : decode cX3_read 59 = .ok (.aload_n 0, 1) := by decide +kernel
theorem dX3_read_60 : decode cX3_read 60 = .ok (.getfield 42, 3) := by decide +kernel
theorem dX3_read_63 : decode cX3_read 63 = .ok (.istore_n 3, 1) := by decide +kernel
theorem dX3_read_64 : decode cX3_read 64 = .ok (.iload_n 2, 1) := by decide +kernel
theorem dX3_read_65 : decode cX3_read 65 = .ok (.ifCond .eq 16, 3) := by decide +kernel
theorem dX3_read_68 : decode cX3_read 68 = .ok (.aload_n 0, 1) := by decide +kernel
theorem dX3_read_69 : decode cX3_read 69 = .ok (.aload_n 0, 1) := by decide +kernel
theorem dX3_read_70 : decode cX3_read 70 = .ok (.getfield 9, 3) := by decide +kernel
theorem dX3_read_73 : decode cX3_read 73 = .ok (.iload_n 1, 1) := by decide +kernel
theorem dX3_read_74 : decode cX3_read 74 = .ok (.iaload, 1) := by decide +kernel
theorem dX3_read_75 : decode cX3_read 75 = .ok (.invokevirtual 45, 3) := by decide +kernel
theorem dX3_read_78 : decode cX3_read 78 = .ok (.goto 13, 3) := by decide +kernel
theorem dX3_read_81 : decode cX3_read 81 = .ok (.aload_n 0, 1) := by decide +kernel
theorem dX3_read_82 : decode cX3_read 82 = .ok (.aload_n 0, 1) := by decide +kernel
theorem dX3_read_83 : decode cX3_read 83 = .ok (.getfield 9, 3) := by decide +kernel
theorem dX3_read_86 : decode cX3_read 86 = .ok (.iload_n 1, 1) := by decide +kernel
theorem dX3_read_87 : decode cX3_read 87 = .ok (.iaload, 1) := by decide +kernel
theorem dX3_read_88 : decode cX3_read 88 = .ok (.invokevirtual 48, 3) := by decide +kernel
theorem dX3_read_91 : decode cX3_read 91 = .ok (.istore 4, 2) := by decide +kernel
theorem dX3_read_93 : decode cX3_read 93 = .ok (.iload 4, 2) := by decide +kernel
theorem dX3_read_95 : decode cX3_read 95 = .ok (.ifCond .ne 14, 3) := by decide +kernel
theorem dX3_read_98 : decode cX3_read 98 = .ok (.aload_n 0, 1) := by decide +kernel
theorem dX3_read_99 : decode cX3_read 99 = .ok (.iload_n 1, 1) := by decide +kernel
theorem dX3_read_100 : decode cX3_read 100 = .ok (.putfield 51, 3) := by decide +kernel
theorem dX3_read_103 : decode cX3_read 103 = .ok (.aload_n 0, 1) := by decide +kernel
theorem dX3_read_104 : decode cX3_read 104 = .ok (.iload_n 3, 1) := by decide +kernel
theorem dX3_read_105 : decode cX3_read 105 = .ok (.putfield 54, 3) := by decide +kernel
theorem dX3_read_108 : decode cX3_read 108 = .ok (.return_, 1) := by decide +kernel
theorem dX3_read_109 : decode cX3_read 109 = .ok (.iinc 1 1, 3) := by decide +kernel
theorem dX3_read_112 : decode cX3_read 112 = .ok (.goto (-106), 3) := by decide +kernel
theorem dX3_read_115 : decode cX3_read 115 = .ok (.aload_n 0, 1) := by decide +kernel
theorem dX3_read_116 : decode cX3_read 116 = .ok (.aload_n 0, 1) := by decide +kernel
theorem dX3_read_117 : decode cX3_read 117 = .ok (.invokevirtual 31, 3) := by decide +kernel
theorem dX3_read_120 : decode cX3_read 120 = .ok (.ifCond .eq 10, 3) := by decide +kernel
theorem dX3_read_123 : decode cX3_read 123 = .ok (.aload_n 0, 1) := by decide +kernel
theorem dX3_read_124 : decode cX3_read 124 = .ok (.getfield 24, 3) := by decide +kernel
theorem dX3_read_127 : decode cX3_read 127 = .ok (.goto 5, 3) := by decide +kernel
theorem dX3_read_130 : decode cX3_read 130 = .ok (.bipush (-9), 2) := by decide +kernel
theorem dX3_read_132 : decode cX3_read 132 = .ok (.putfield 51, 3) := by decide +kernel
theorem dX3_read_135 : decode cX3_read 135 = .ok (.aload_n 0, 1) := by decide +kernel
theorem dX3_read_136 : decode cX3_read 136 = .ok (.aload_n 0, 1) := by decide +kernel
theorem dX3_read_137 : decode cX3_read 137 = .ok (.invokevirtual 31, 3) := by decide +kernel
theorem dX3_read_140 : decode cX3_read 140 = .ok (.ifCond .eq 12, 3) := by decide +kernel
theorem dX3_read_143 : decode cX3_read 143 = .ok (.aload_n 0, 1) := by decide +kernel
theorem dX3_read_144 : decode cX3_read 144 = .ok (.getfield 42, 3) := by decide +kernel
theorem dX3_read_147 : decode cX3_read 147 = .ok (.iconst 1, 1) := by decide +kernel
theorem dX3_read_148 : decode cX3_read 148 = .ok (.isub, 1) := by decide +kernel
theorem dX3_read_149 : decode cX3_read 149 = .ok (.goto 5, 3) := by decide +kernel
theorem dX3_read_152 : decode cX3_read 152 = .ok (.bipush (-9), 2) := by decide +kernel
theorem dX3_read_154 : decode cX3_read 154 = .ok (.putfield 54, 3) := by decide +kernel
theorem dX3_read_157 : decode cX3_read 157 = .ok (.return_, 1) := by decide +kernel
theorem dX3_beginReading_0 : decode cX3_beginReading 0 = .ok (.aload_n 0, 1) := by decide +kernel
theorem dX3_beginReading_1 : decode cX3_beginReading 1 = .ok (.iconst 0, 1) := by decide +kernel
theorem dX3_beginReading_2 : decode cX3_beginReading 2 = .ok (.putfield 57, 3) := by decide +kernel
theorem dX3_beginReading_5 : decode cX3_beginReading 5 = .ok (.aload_n 0, 1) := by decide +kernel
theorem dX3_beginReading_6 : decode cX3_beginReading 6 = .ok (.iconst 0, 1) := by decide +kernel
theorem dX3_beginReading_7 : decode cX3_beginReading 7 = .ok (.putfield 60, 3) := by decide +kernel
theorem dX3_beginReading_10 : decode cX3_beginReading 10 = .ok (.aload_n 0, 1) := by decide +kernel
theorem dX3_beginReading_11 : decode cX3_beginReading 11 = .ok (.iconst 0, 1) := by decide +kernel
theorem dX3_beginReading_12 : decode cX3_beginReading 12 = .ok (.putfield 63, 3) := by decide +kernel
theorem dX3_beginReading_15 : decode cX3_beginReading 15 = .ok (.aload_n 0, 1) := by decide +kernel
theorem dX3_beginReading_16 : decode cX3_beginReading 16 = .ok (.iconst 0, 1) := by decide +kernel
theorem dX3_beginReading_17 : decode cX3_beginReading 17 = .ok (.putfield 42, 3) := by decide +kernel
theorem dX3_beginReading_20 : decode cX3_beginReading 20 = .ok (.aload_n 0, 1) := by decide +kernel
theorem dX3_beginReading_21 : decode cX3_beginReading 21 = .ok (.iconst 0, 1) := by decide +kernel
theorem dX3_beginReading_22 : decode cX3_beginReading 22 = .ok (.putfield 66, 3) := by decide +kernel
theorem dX3_beginReading_25 : decode cX3_beginReading 25 = .ok (.aload_n 0, 1) := by decide +kernel
theorem dX3_beginReading_26 : decode cX3_beginReading 26 = .ok (.iconst 0, 1) := by decide +kernel
theorem dX3_beginReading_27 : decode cX3_beginReading 27 = .ok (.putfield 69, 3) := by decide +kernel
theorem dX3_beginReading_30 : decode cX3_beginReading 30 = .ok (.return_, 1) := by decide +kernel
theorem dX3_isOfLetters_0 : decode cX3_isOfLetters 0 = .ok (.aload_n 0, 1) := by decide +kernel
theorem dX3_isOfLetters_1 : decode cX3_isOfLetters 1 = .ok (.getfield 66, 3) := by decide +kernel
theorem dX3_isOfLetters_4 : decode cX3_isOfLetters 4 = .ok (.iconst 1, 1) := by decide +kernel
theorem dX3_isOfLetters_5 : decode cX3_isOfLetters 5 = .ok (.if_icmp .eq 11, 3) := by decide +kernel
theorem dX3_isOfLetters_8 : decode cX3_isOfLetters 8 = .ok (.aload_n 0, 1) := by decide +kernel
theorem dX3_isOfLetters_9 : decode cX3_isOfLetters 9 = .ok (.getfield 66, 3) := by decide +kernel
theorem dX3_isOfLetters_12 : decode cX3_isOfLetters 12 = .ok (.iconst 2, 1) := by decide +kernel
theorem dX3_isOfLetters_13 : decode cX3_isOfLetters 13 = .ok (.if_icmp .ne 7, 3) := by decide +kernel
theorem dX3_isOfLetters_16 : decode cX3_isOfLetters 16 = .ok (.iconst 1, 1) := by decide +kernel
theorem dX3_isOfLetters_17 : decode cX3_isOfLetters 17 = .ok (.goto 4, 3) := by decide +kernel
theorem dX3_isOfLetters_20 : decode cX3_isOfLetters 20 = .ok (.iconst 0, 1) := by decide +kernel
theorem dX3_isOfLetters_21 : decode cX3_isOfLetters 21 = .ok (.ireturn, 1) := by decide +kernel
theorem dX3_needsMore_0 : decode cX3_needsMore 0 = .ok (.aload_n 0, 1) := by decide +kernel
theorem dX3_needsMore_1 : decode cX3_needsMore 1 = .ok (.invokevirtual 35, 3) := by decide +kernel
theorem dX3_needsMore_4 : decode cX3_needsMore 4 = .ok (.ifCond .eq 18, 3) := by decide +kernel
theorem dX3_needsMore_7 : decode cX3_needsMore 7 = .ok (.aload_n 0, 1) := by decide +kernel
theorem dX3_needsMore_8 : decode cX3_needsMore 8 = .ok (.getfield 69, 3) := by decide +kernel
theorem dX3_needsMore_11 : decode cX3_needsMore 11 = .ok (.ifCond .ne 7, 3) := by decide +kernel
theorem dX3_needsMore_14 : decode cX3_needsMore 14 = .ok (.iconst 1, 1) := by decide +kernel
theorem dX3_needsMore_15 : decode cX3_needsMore 15 = .ok (.goto 28, 3) := by decide +kernel
theorem dX3_needsMore_18 : decode cX3_needsMore 18 = .ok (.iconst 0, 1) := by decide +kernel
theorem dX3_needsMore_19 : decode cX3_needsMore 19 = .ok (.goto 24, 3) := by decide +kernel
theorem dX3_needsMore_22 : decode cX3_needsMore 22 = .ok (.aload_n 0, 1) := by decide +kernel
theorem dX3_needsMore_23 : decode cX3_needsMore 23 = .ok (.getfield 66, 3) := by decide +kernel
theorem dX3_needsMore_26 : decode cX3_needsMore 26 = .ok (.iconst 3, 1) := by decide +kernel
theorem dX3_needsMore_27 : decode cX3_needsMore 27 = .ok (.if_icmp .ne 15, 3) := by decide +kernel
theorem dX3_needsMore_30 : decode cX3_needsMore 30 = .ok (.aload_n 0, 1) := by decide +kernel
theorem dX3_needsMore_31 : decode cX3_needsMore 31 = .ok (.getfield 69, 3) := by decide +kernel
theorem dX3_needsMore_34 : decode cX3_needsMore 34 = .ok (.iconst 4, 1) := by decide +kernel
theorem dX3_needsMore_35 : decode cX3_needsMore 35 = .ok (.if_icmp .ge 7, 3) := by decide +kernel
theorem dX3_needsMore_38 : decode cX3_needsMore 38 = .ok (.iconst 1, 1) := by decide +kernel
theorem dX3_needsMore_39 : decode cX3_needsMore 39 = .ok (.goto 4, 3) := by decide +kernel
theorem dX3_needsMore_42 : decode cX3_needsMore 42 = .ok (.iconst 0, 1) := by decide +kernel
theorem dX3_needsMore_43 : decode cX3_needsMore 43 = .ok (.ireturn, 1) := by decide +kernel
theorem dX3_beginPart_0 : decode cX3_beginPart 0 = .ok (.iload_n 1, 1) := by decide +kernel
theorem dX3_beginPart_1 : decode cX3_beginPart 1 = .ok (.bipush 82, 2) := by decide +kernel
theorem dX3_beginPart_3 : decode cX3_beginPart 3 = .ok (.if_icmp .ne 39, 3) := by decide +kernel
theorem dX3_beginPart_6 : decode cX3_beginPart 6 = .ok (.aload_n 0, 1) := by decide +kernel
theorem dX3_beginPart_7 : decode cX3_beginPart 7 = .ok (.getfield 57, 3) := by decide +kernel
theorem dX3_beginPart_10 : decode cX3_beginPart 10 = .ok (.iconst 4, 1) := by decide +kernel
theorem dX3_beginPart_11 : decode cX3_beginPart 11 = .ok (.if_icmp .ge 31, 3) := by decide +kernel
theorem dX3_beginPart_14 : decode cX3_beginPart 14 = .ok (.aload_n 0, 1) := by decide +kernel
theorem dX3_beginPart_15 : decode cX3_beginPart 15 = .ok (.getfield 15, 3) := by decide +kernel
theorem dX3_beginPart_18 : decode cX3_beginPart 18 = .ok (.aload_n 0, 1) := by decide +kernel
theorem dX3_beginPart_19 : decode cX3_beginPart 19 = .ok (.getfield 57, 3) := by decide +kernel
theorem dX3_beginPart_22 : decode cX3_beginPart 22 = .ok (.iconst 0, 1) := by decide +kernel
theorem dX3_beginPart_23 : decode cX3_beginPart 23 = .ok (.iastore, 1) := by decide +kernel
theorem dX3_beginPart_24 : decode cX3_beginPart 24 = .ok (.aload_n 0, 1) := by decide +kernel
theorem dX3_beginPart_25 : decode cX3_beginPart 25 = .ok (.dup, 1) := by decide +kernel
theorem dX3_beginPart_26 : decode cX3_beginPart 26 = .ok (.getfield 57, 3) := by decide +kernel
theorem dX3_beginPart_29 : decode cX3_beginPart 29 = .ok (.iconst 1, 1) := by decide +kernel
theorem dX3_beginPart_30 : decode cX3_beginPart 30 = .ok (.iadd, 1) := by decide +kernel
theorem dX3_beginPart_31 : decode cX3_beginPart 31 = .ok (.putfield 57, 3) := by decide +kernel
theorem dX3_beginPart_34 : decode cX3_beginPart 34 = .ok (.aload_n 0, 1) := by decide +kernel
theorem dX3_beginPart_35 : decode cX3_beginPart 35 = .ok (.iconst 1, 1) := by decide +kernel
theorem dX3_beginPart_36 : decode cX3_beginPart 36 = .ok (.putfield 66, 3) := by decide +kernel
theorem dX3_beginPart_39 : decode cX3_beginPart 39 = .ok (.goto 79, 3) := by decide +kernel
theorem dX3_beginPart_42 : decode cX3_beginPart 42 = .ok (.iload_n 1, 1) := by decide +kernel
theorem dX3_beginPart_43 : decode cX3_beginPart 43 = .ok (.bipush 69, 2) := by decide +kernel
theorem dX3_beginPart_45 : decode cX3_beginPart 45 = .ok (.if_icmp .ne 39, 3) := by decide +kernel
theorem dX3_beginPart_48 : decode cX3_beginPart 48 = .ok (.aload_n 0, 1) := by decide +kernel
theorem dX3_beginPart_49 : decode cX3_beginPart 49 = .ok (.getfield 60, 3) := by decide +kernel
theorem dX3_beginPart_52 : decode cX3_beginPart 52 = .ok (.iconst 3, 1) := by decide +kernel
theorem dX3_beginPart_53 : decode cX3_beginPart 53 = .ok (.if_icmp .ge 31, 3) := by decide +kernel
theorem dX3_beginPart_56 : decode cX3_beginPart 56 = .ok (.aload_n 0, 1) := by decide +kernel
theorem dX3_beginPart_57 : decode cX3_beginPart 57 = .ok (.getfield 18, 3) := by decide +kernel
theorem dX3_beginPart_60 : decode cX3_beginPart 60 = .ok (.aload_n 0, 1) := by decide +kernel
theorem dX3_beginPart_61 : decode cX3_beginPart 61 = .ok (.getfield 60, 3) := by decide +kernel
theorem dX3_beginPart_64 : decode cX3_beginPart 64 = .ok (.iconst 0, 1) := by decide +kernel
theorem dX3_beginPart_65 : decode cX3_beginPart 65 = .ok (.iastore, 1) := by decide +kernel
theorem dX3_beginPart_66 : decode cX3_beginPart 66 = .ok (.aload_n 0, 1) := by decide +kernel
theorem dX3_beginPart_67 : decode cX3_beginPart 67 = .ok (.dup, 1) := by decide +kernel
theorem dX3_beginPart_68 : decode cX3_beginPart 68 = .ok (.getfield 60, 3) := by decide +kernel
theorem dX3_beginPart_71 : decode cX3_beginPart 71 = .ok (.iconst 1, 1) := by decide +kernel
theorem dX3_beginPart_72 : decode cX3_beginPart 72 = .ok (.iadd, 1) := by decide +kernel
theorem dX3_beginPart_73 : decode cX3_beginPart 73 = .ok (.putfield 60, 3) := by decide +kernel
theorem dX3_beginPart_76 : decode cX3_beginPart 76 = .ok (.aload_n 0, 1) := by decide +kernel
theorem dX3_beginPart_77 : decode cX3_beginPart 77 = .ok (.iconst 2, 1) := by decide +kernel
theorem dX3_beginPart_78 : decode cX3_beginPart 78 = .ok (.putfield 66, 3) := by decide +kernel
theorem dX3_beginPart_81 : decode cX3_beginPart 81 = .ok (.goto 37, 3) := by decide +kernel
theorem dX3_beginPart_84 : decode cX3_beginPart 84 = .ok (.iload_n 1, 1) := by decide +kernel
theorem dX3_beginPart_85 : decode cX3_beginPart 85 = .ok (.bipush 67, 2) := by decide +kernel
theorem dX3_beginPart_87 : decode cX3_beginPart 87 = .ok (.if_icmp .ne 29, 3) := by decide +kernel
theorem dX3_beginPart_90 : decode cX3_beginPart 90 = .ok (.aload_n 0, 1) := by decide +kernel
theorem dX3_beginPart_91 : decode cX3_beginPart 91 = .ok (.getfield 63, 3) := by decide +kernel
theorem dX3_beginPart_94 : decode cX3_beginPart 94 = .ok (.iconst 4, 1) := by decide +kernel
theorem dX3_beginPart_95 : decode cX3_beginPart 95 = .ok (.if_icmp .ge 21, 3) := by decide +kernel
theorem dX3_beginPart_98 : decode cX3_beginPart 98 = .ok (.aload_n 0, 1) := by decide +kernel
theorem dX3_beginPart_99 : decode cX3_beginPart 99 = .ok (.dup, 1) := by decide +kernel
theorem dX3_beginPart_100 : decode cX3_beginPart 100 = .ok (.getfield 63, 3) := by decide +kernel
theorem dX3_beginPart_103 : decode cX3_beginPart 103 = .ok (.iconst 1, 1) := by decide +kernel
theorem dX3_beginPart_104 : decode cX3_beginPart 104 = .ok (.iadd, 1) := by decide +kernel
theorem dX3_beginPart_105 : decode cX3_beginPart 105 = .ok (.putfield 63, 3) := by decide +kernel
theorem dX3_beginPart_108 : decode cX3_beginPart 108 = .ok (.aload_n 0, 1) := by decide +kernel
theorem dX3_beginPart_109 : decode cX3_beginPart 109 = .ok (.iconst 3, 1) := by decide +kernel
theorem dX3_beginPart_110 : decode cX3_beginPart 110 = .ok (.putfield 66, 3) := by decide +kernel
theorem dX3_beginPart_113 : decode cX3_beginPart 113 = .ok (.goto 5, 3) := by decide +kernel
theorem dX3_beginPart_116 : decode cX3_beginPart 116 = .ok (.iconst 0, 1) := by decide +kernel
theorem dX3_beginPart_117 : decode cX3_beginPart 117 = .ok (.ireturn, 1) := by decide +kernel
theorem dX3_beginPart_118 : decode cX3_beginPart 118 = .ok (.aload_n 0, 1) := by decide +kernel
theorem dX3_beginPart_119 : decode cX3_beginPart 119 = .ok (.iconst 0, 1) := by decide +kernel
theorem dX3_beginPart_120 : decode cX3_beginPart 120 = .ok (.putfield 69, 3) := by decide +kernel
theorem dX3_beginPart_123 : decode cX3_beginPart 123 = .ok (.aload_n 0, 1) := by decide +kernel
theorem dX3_beginPart_124 : decode cX3_beginPart 124 = .ok (.dup, 1) := by decide +kernel
theorem dX3_beginPart_125 : decode cX3_beginPart 125 = .ok (.getfield 42, 3) := by decide +kernel
theorem dX3_beginPart_128 : decode cX3_beginPart 128 = .ok (.iconst 1, 1) := by decide +kernel
theorem dX3_beginPart_129 : decode cX3_beginPart 129 = .ok (.iadd, 1) := by decide +kernel
theorem dX3_beginPart_130 : decode cX3_beginPart 130 = .ok (.putfield 42, 3) := by decide +kernel
theorem dX3_beginPart_133 : decode cX3_beginPart 133 = .ok (.iconst 1, 1) := by decide +kernel
theorem dX3_beginPart_134 : decode cX3_beginPart 134 = .ok (.ireturn, 1) := by decide +kernel
theorem dX3_goOnWith_0 : decode cX3_goOnWith 0 = .ok (.aload_n 0, 1) := by decide +kernel
theorem dX3_goOnWith_1 : decode cX3_goOnWith 1 = .ok (.getfield 66, 3) := by decide +kernel
theorem dX3_goOnWith_4 : decode cX3_goOnWith 4 = .ok (.iconst 1, 1) := by decide +kernel
theorem dX3_goOnWith_5 : decode cX3_goOnWith 5 = .ok (.if_icmp .ne 23, 3) := by decide +kernel
theorem dX3_goOnWith_8 : decode cX3_goOnWith 8 = .ok (.aload_n 0, 1) := by decide +kernel
theorem dX3_goOnWith_9 : decode cX3_goOnWith 9 = .ok (.aload_n 0, 1) := by decide +kernel
theorem dX3_goOnWith_10 : decode cX3_goOnWith 10 = .ok (.getfield 15, 3) := by decide +kernel
theorem dX3_goOnWith_13 : decode cX3_goOnWith 13 = .ok (.aload_n 0, 1) := by decide +kernel
theorem dX3_goOnWith_14 : decode cX3_goOnWith 14 = .ok (.getfield 57, 3) := by decide +kernel
theorem dX3_goOnWith_17 : decode cX3_goOnWith 17 = .ok (.iconst 1, 1) := by decide +kernel
theorem dX3_goOnWith_18 : decode cX3_goOnWith 18 = .ok (.isub, 1) := by decide +kernel
theorem dX3_goOnWith_19 : decode cX3_goOnWith 19 = .ok (.iconst 4, 1) := by decide +kernel
theorem dX3_goOnWith_20 : decode cX3_goOnWith 20 = .ok (.iload_n 1, 1) := by decide +kernel
theorem dX3_goOnWith_21 : decode cX3_goOnWith 21 = .ok (.invokevirtual 72, 3) := by decide +kernel
theorem dX3_goOnWith_24 : decode cX3_goOnWith 24 = .ok (.istore_n 2, 1) := by decide +kernel
theorem dX3_goOnWith_25 : decode cX3_goOnWith 25 = .ok (.goto 37, 3) := by decide +kernel
theorem dX3_goOnWith_28 : decode cX3_goOnWith 28 = .ok (.aload_n 0, 1) := by decide +kernel
theorem dX3_goOnWith_29 : decode cX3_goOnWith 29 = .ok (.getfield 66, 3) := by decide +kernel
theorem dX3_goOnWith_32 : decode cX3_goOnWith 32 = .ok (.iconst 2, 1) := by decide +kernel
theorem dX3_goOnWith_33 : decode cX3_goOnWith 33 = .ok (.if_icmp .ne 23, 3) := by decide +kernel
theorem dX3_goOnWith_36 : decode cX3_goOnWith 36 = .ok (.aload_n 0, 1) := by decide +kernel
theorem dX3_goOnWith_37 : decode cX3_goOnWith 37 = .ok (.aload_n 0, 1) := by decide +kernel
theorem dX3_goOnWith_38 : decode cX3_goOnWith 38 = .ok (.getfield 18, 3) := by decide +kernel
theorem dX3_goOnWith_41 : decode cX3_goOnWith 41 = .ok (.aload_n 0, 1) := by decide +kernel
theorem dX3_goOnWith_42 : decode cX3_goOnWith 42 = .ok (.getfield 60, 3) := by decide +kernel
theorem dX3_goOnWith_45 : decode cX3_goOnWith 45 = .ok (.iconst 1, 1) := by decide +kernel
theorem dX3_goOnWith_46 : decode cX3_goOnWith 46 = .ok (.isub, 1) := by decide +kernel
theorem dX3_goOnWith_47 : decode cX3_goOnWith 47 = .ok (.iconst 2, 1) := by decide +kernel
theorem dX3_goOnWith_48 : decode cX3_goOnWith 48 = .ok (.iload_n 1, 1) := by decide +kernel
theorem dX3_goOnWith_49 : decode cX3_goOnWith 49 = .ok (.invokevirtual 72, 3) := by decide +kernel
theorem dX3_goOnWith_52 : decode cX3_goOnWith 52 = .ok (.istore_n 2, 1) := by decide +kernel
theorem dX3_goOnWith_53 : decode cX3_goOnWith 53 = .ok (.goto 9, 3) := by decide +kernel
theorem dX3_goOnWith_56 : decode cX3_goOnWith 56 = .ok (.aload_n 0, 1) := by decide +kernel
theorem dX3_goOnWith_57 : decode cX3_goOnWith 57 = .ok (.iload_n 1, 1) := by decide +kernel
theorem dX3_goOnWith_58 : decode cX3_goOnWith 58 = .ok (.invokevirtual 76, 3) := by decide +kernel
theorem dX3_goOnWith_61 : decode cX3_goOnWith 61 = .ok (.istore_n 2, 1) := by decide +kernel
theorem dX3_goOnWith_62 : decode cX3_goOnWith 62 = .ok (.aload_n 0, 1) := by decide +kernel
theorem dX3_goOnWith_63 : decode cX3_goOnWith 63 = .ok (.dup, 1) := by decide +kernel
theorem dX3_goOnWith_64 : decode cX3_goOnWith 64 = .ok (.getfield 69, 3) := by decide +kernel
theorem dX3_goOnWith_67 : decode cX3_goOnWith 67 = .ok (.iload_n 2, 1) := by decide +kernel
theorem dX3_goOnWith_68 : decode cX3_goOnWith 68 = .ok (.ifCond .eq 7, 3) := by decide +kernel
theorem dX3_goOnWith_71 : decode cX3_goOnWith 71 = .ok (.iconst 1, 1) := by decide +kernel
theorem dX3_goOnWith_72 : decode cX3_goOnWith 72 = .ok (.goto 4, 3) := by decide +kernel
theorem dX3_goOnWith_75 : decode cX3_goOnWith 75 = .ok (.iconst 0, 1) := by decide +kernel
theorem dX3_goOnWith_76 : decode cX3_goOnWith 76 = .ok (.iadd, 1) := by decide +kernel
theorem dX3_goOnWith_77 : decode cX3_goOnWith 77 = .ok (.putfield 69, 3) := by decide +kernel
theorem dX3_goOnWith_80 : decode cX3_goOnWith 80 = .ok (.iload_n 2, 1) := by decide +kernel
theorem dX3_goOnWith_81 : decode cX3_goOnWith 81 = .ok (.ireturn, 1) := by decide +kernel
theorem dX3_addLetter_0 : decode cX3_addLetter 0 = .ok (.aload_n 0, 1) := by decide +kernel
theorem dX3_addLetter_1 : decode cX3_addLetter 1 = .ok (.getfield 69, 3) := by decide +kernel
theorem dX3_addLetter_4 : decode cX3_addLetter 4 = .ok (.iload_n 3, 1) := by decide +kernel
theorem dX3_addLetter_5 : decode cX3_addLetter 5 = .ok (.if_icmp .ge 21, 3) := by decide +kernel
theorem dX3_addLetter_8 : decode cX3_addLetter 8 = .ok (.iload 4, 2) := by decide +kernel
theorem dX3_addLetter_10 : decode cX3_addLetter 10 = .ok (.invokestatic 38, 3) := by decide +kernel
theorem dX3_addLetter_13 : decode cX3_addLetter 13 = .ok (.ifCond .eq 13, 3) := by decide +kernel
theorem dX3_addLetter_16 : decode cX3_addLetter 16 = .ok (.iload_n 2, 1) := by decide +kernel
theorem dX3_addLetter_17 : decode cX3_addLetter 17 = .ok (.ifCond .lt 9, 3) := by decide +kernel
theorem dX3_addLetter_20 : decode cX3_addLetter 20 = .ok (.iload_n 2, 1) := by decide +kernel
theorem dX3_addLetter_21 : decode cX3_addLetter 21 = .ok (.aload_n 1, 1) := by decide +kernel
theorem dX3_addLetter_22 : decode cX3_addLetter 22 = .ok (.arraylength, 1) := by decide +kernel
theorem dX3_addLetter_23 : decode cX3_addLetter 23 = .ok (.if_icmp .lt 5, 3) := by decide +kernel
theorem dX3_addLetter_26 : decode cX3_addLetter 26 = .ok (.iconst 0, 1) := by decide +kernel
theorem dX3_addLetter_27 : decode cX3_addLetter 27 = .ok (.ireturn, 1) := by decide +kernel
theorem dX3_addLetter_28 : decode cX3_addLetter 28 = .ok (.aload_n 1, 1) := by decide +kernel
theorem dX3_addLetter_29 : decode cX3_addLetter 29 = .ok (.iload_n 2, 1) := by decide +kernel
theorem dX3_addLetter_30 : decode cX3_addLetter 30 = .ok (.bipush 10, 2) := by decide +kernel
theorem dX3_addLetter_32 : decode cX3_addLetter 32 = .ok (.aload_n 1, 1) := by decide +kernel
theorem dX3_addLetter_33 : decode cX3_addLetter 33 = .ok (.iload_n 2, 1) := by decide +kernel
theorem dX3_addLetter_34 : decode cX3_addLetter 34 = .ok (.iaload, 1) := by decide +kernel
theorem dX3_addLetter_35 : decode cX3_addLetter 35 = .ok (.imul, 1) := by decide +kernel
theorem dX3_addLetter_36 : decode cX3_addLetter 36 = .ok (.iload 4, 2) := by decide +kernel
theorem dX3_addLetter_38 : decode cX3_addLetter 38 = .ok (.invokestatic 79, 3) := by decide +kernel
theorem dX3_addLetter_41 : decode cX3_addLetter 41 = .ok (.iadd, 1) := by decide +kernel
theorem dX3_addLetter_42 : decode cX3_addLetter 42 = .ok (.iastore, 1) := by decide +kernel
theorem dX3_addLetter_43 : decode cX3_addLetter 43 = .ok (.iconst 1, 1) := by decide +kernel
theorem dX3_addLetter_44 : decode cX3_addLetter 44 = .ok (.ireturn, 1) := by decide +kernel
theorem dX3_addSign_0 : decode cX3_addSign 0 = .ok (.iload_n 1, 1) := by decide +kernel
theorem dX3_addSign_1 : decode cX3_addSign 1 = .ok (.invokestatic 79, 3) := by decide +kernel
theorem dX3_addSign_4 : decode cX3_addSign 4 = .ok (.istore_n 2, 1) := by decide +kernel
theorem dX3_addSign_5 : decode cX3_addSign 5 = .ok (.aload_n 0, 1) := by decide +kernel
theorem dX3_addSign_6 : decode cX3_addSign 6 = .ok (.getfield 63, 3) := by decide +kernel
theorem dX3_addSign_9 : decode cX3_addSign 9 = .ok (.iconst 1, 1) := by decide +kernel
theorem dX3_addSign_10 : decode cX3_addSign 10 = .ok (.isub, 1) := by decide +kernel
theorem dX3_addSign_11 : decode cX3_addSign 11 = .ok (.iconst 4, 1) := by decide +kernel
theorem dX3_addSign_12 : decode cX3_addSign 12 = .ok (.imul, 1) := by decide +kernel
theorem dX3_addSign_13 : decode cX3_addSign 13 = .ok (.aload_n 0, 1) := by decide +kernel
theorem dX3_addSign_14 : decode cX3_addSign 14 = .ok (.getfield 69, 3) := by decide +kernel
theorem dX3_addSign_17 : decode cX3_addSign 17 = .ok (.iadd, 1) := by decide +kernel
theorem dX3_addSign_18 : decode cX3_addSign 18 = .ok (.istore_n 3, 1) := by decide +kernel
theorem dX3_addSign_19 : decode cX3_addSign 19 = .ok (.aload_n 0, 1) := by decide +kernel
theorem dX3_addSign_20 : decode cX3_addSign 20 = .ok (.getfield 69, 3) := by decide +kernel
theorem dX3_addSign_23 : decode cX3_addSign 23 = .ok (.iload_n 2, 1) := by decide +kernel
theorem dX3_addSign_24 : decode cX3_addSign 24 = .ok (.invokestatic 83, 3) := by decide +kernel
theorem dX3_addSign_27 : decode cX3_addSign 27 = .ok (.ifCond .eq 16, 3) := by decide +kernel
theorem dX3_addSign_30 : decode cX3_addSign 30 = .ok (.iload_n 3, 1) := by decide +kernel
theorem dX3_addSign_31 : decode cX3_addSign 31 = .ok (.ifCond .lt 12, 3) := by decide +kernel
theorem dX3_addSign_34 : decode cX3_addSign 34 = .ok (.iload_n 3, 1) := by decide +kernel
theorem dX3_addSign_35 : decode cX3_addSign 35 = .ok (.aload_n 0, 1) := by decide +kernel
theorem dX3_addSign_36 : decode cX3_addSign 36 = .ok (.getfield 21, 3) := by decide +kernel
theorem dX3_addSign_39 : decode cX3_addSign 39 = .ok (.arraylength, 1) := by decide +kernel
theorem dX3_addSign_40 : decode cX3_addSign 40 = .ok (.if_icmp .lt 5, 3) := by decide +kernel
theorem dX3_addSign_43 : decode cX3_addSign 43 = .ok (.iconst 0, 1) := by decide +kernel
theorem dX3_addSign_44 : decode cX3_addSign 44 = .ok (.ireturn, 1) := by decide +kernel
theorem dX3_addSign_45 : decode cX3_addSign 45 = .ok (.aload_n 0, 1) := by decide +kernel
theorem dX3_addSign_46 : decode cX3_addSign 46 = .ok (.getfield 21, 3) := by decide +kernel
theorem dX3_addSign_49 : decode cX3_addSign 49 = .ok (.iload_n 3, 1) := by decide +kernel
theorem dX3_addSign_50 : decode cX3_addSign 50 = .ok (.iload_n 2, 1) := by decide +kernel
theorem dX3_addSign_51 : decode cX3_addSign 51 = .ok (.iastore, 1) := by decide +kernel
theorem dX3_addSign_52 : decode cX3_addSign 52 = .ok (.iconst 1, 1) := by decide +kernel
theorem dX3_addSign_53 : decode cX3_addSign 53 = .ok (.ireturn, 1) := by decide +kernel
theorem dX3_isLetter_0 : decode cX3_isLetter 0 = .ok (.iload_n 0, 1) := by decide +kernel
theorem dX3_isLetter_1 : decode cX3_isLetter 1 = .ok (.bipush 97, 2) := by decide +kernel
theorem dX3_isLetter_3 : decode cX3_isLetter 3 = .ok (.if_icmp .lt 13, 3) := by decide +kernel
theorem dX3_isLetter_6 : decode cX3_isLetter 6 = .ok (.iload_n 0, 1) := by decide +kernel
theorem dX3_isLetter_7 : decode cX3_isLetter 7 = .ok (.bipush 101, 2) := by decide +kernel
theorem dX3_isLetter_9 : decode cX3_isLetter 9 = .ok (.if_icmp .gt 7, 3) := by decide +kernel
theorem dX3_isLetter_12 : decode cX3_isLetter 12 = .ok (.iconst 1, 1) := by decide +kernel
theorem dX3_isLetter_13 : decode cX3_isLetter 13 = .ok (.goto 4, 3) := by decide +kernel
theorem dX3_isLetter_16 : decode cX3_isLetter 16 = .ok (.iconst 0, 1) := by decide +kernel
theorem dX3_isLetter_17 : decode cX3_isLetter 17 = .ok (.ireturn, 1) := by decide +kernel
theorem dX3_signMeant_0 : decode cX3_signMeant 0 = .ok (.iload_n 0, 1) := by decide +kernel
theorem dX3_signMeant_1 : decode cX3_signMeant 1 = .ok (.invokestatic 38, 3) := by decide +kernel
theorem dX3_signMeant_4 : decode cX3_signMeant 4 = .ok (.ifCond .eq 10, 3) := by decide +kernel
theorem dX3_signMeant_7 : decode cX3_signMeant 7 = .ok (.iload_n 0, 1) := by decide +kernel
theorem dX3_signMeant_8 : decode cX3_signMeant 8 = .ok (.bipush 97, 2) := by decide +kernel
theorem dX3_signMeant_10 : decode cX3_signMeant 10 = .ok (.isub, 1) := by decide +kernel
theorem dX3_signMeant_11 : decode cX3_signMeant 11 = .ok (.iconst 1, 1) := by decide +kernel
theorem dX3_signMeant_12 : decode cX3_signMeant 12 = .ok (.iadd, 1) := by decide +kernel
theorem dX3_signMeant_13 : decode cX3_signMeant 13 = .ok (.ireturn, 1) := by decide +kernel
theorem dX3_signMeant_14 : decode cX3_signMeant 14 = .ok (.iload_n 0, 1) := by decide +kernel
theorem dX3_signMeant_15 : decode cX3_signMeant 15 = .ok (.tableswitch 41 42 46 #[35, 41, 41, 33, 38], 33) := by decide +kernel
theorem dX3_signMeant_48 : decode cX3_signMeant 48 = .ok (.iconst 0, 1) := by decide +kernel
theorem dX3_signMeant_49 : decode cX3_signMeant 49 = .ok (.ireturn, 1) := by decide +kernel
theorem dX3_signMeant_50 : decode cX3_signMeant 50 = .ok (.bipush 6, 2) := by decide +kernel
theorem dX3_signMeant_52 : decode cX3_signMeant 52 = .ok (.ireturn, 1) := by decide +kernel
theorem dX3_signMeant_53 : decode cX3_signMeant 53 = .ok (.bipush 7, 2) := by decide +kernel
theorem dX3_signMeant_55 : decode cX3_signMeant 55 = .ok (.ireturn, 1) := by decide +kernel
theorem dX3_signMeant_56 : decode cX3_signMeant 56 = .ok (.iconst (-1), 1) := by decide +kernel
theorem dX3_signMeant_57 : decode cX3_signMeant 57 = .ok (.ireturn, 1) := by decide +kernel
theorem dX4_init_0 : decode cX4_init 0 = .ok (.aload_n 0, 1) := by decide +kernel
theorem dX4_init_1 : decode cX4_init 1 = .ok (.invokespecial 3, 3) := by decide +kernel
theorem dX4_init_4 : decode cX4_init 4 = .ok (.aload_n 0, 1) := by decide +kernel
theorem dX4_init_5 : decode cX4_init 5 = .ok (.bipush 16, 2) := by decide +kernel
theorem dX4_init_7 : decode cX4_init 7 = .ok (.newarray .int, 2) := by decide +kernel
theorem dX4_init_9 : decode cX4_init 9 = .ok (.putfield 9, 3) := by decide +kernel
theorem dX4_init_12 : decode cX4_init 12 = .ok (.aload_n 0, 1) := by decide +kernel
theorem dX4_init_13 : decode cX4_init 13 = .ok (.iconst 4, 1) := by decide +kernel
theorem dX4_init_14 : decode cX4_init 14 = .ok (.newarray .int, 2) := by decide +kernel
theorem dX4_init_16 : decode cX4_init 16 = .ok (.putfield 15, 3) := by decide +kernel
theorem dX4_init_19 : decode cX4_init 19 = .ok (.aload_n 0, 1) := by decide +kernel
theorem dX4_init_20 : decode cX4_init 20 = .ok (.bipush 12, 2) := by decide +kernel
theorem dX4_init_22 : decode cX4_init 22 = .ok (.newarray .int, 2) := by decide +kernel
theorem dX4_init_24 : decode cX4_init 24 = .ok (.putfield 18, 3) := by decide +kernel
theorem dX4_init_27 : decode cX4_init 27 = .ok (.aload_n 0, 1) := by decide +kernel
theorem dX4_init_28 : decode cX4_init 28 = .ok (.bipush 12, 2) := by decide +kernel
theorem dX4_init_30 : decode cX4_init 30 = .ok (.newarray .int, 2) := by decide +kernel
theorem dX4_init_32 : decode cX4_init 32 = .ok (.putfield 21, 3) := by decide +kernel
theorem dX4_init_35 : decode cX4_init 35 = .ok (.aload_n 0, 1) := by decide +kernel
theorem dX4_init_36 : decode cX4_init 36 = .ok (.aload_n 1, 1) := by decide +kernel
theorem dX4_init_37 : decode cX4_init 37 = .ok (.putfield 24, 3) := by decide +kernel
theorem dX4_init_40 : decode cX4_init 40 = .ok (.iconst 0, 1) := by decide +kernel
theorem dX4_init_41 : decode cX4_init 41 = .ok (.istore_n 2, 1) := by decide +kernel
theorem dX4_init_42 : decode cX4_init 42 = .ok (.iload_n 2, 1) := by decide +kernel
theorem dX4_init_43 : decode cX4_init 43 = .ok (.bipush 12, 2) := by decide +kernel
theorem dX4_init_45 : decode cX4_init 45 = .ok (.if_icmp .ge 17, 3) := by decide +kernel
theorem dX4_init_48 : decode cX4_init 48 = .ok (.aload_n 0, 1) := by decide +kernel
theorem dX4_init_49 : decode cX4_init 49 = .ok (.getfield 18, 3) := by decide +kernel
theorem dX4_init_52 : decode cX4_init 52 = .ok (.iload_n 2, 1) := by decide +kernel
theorem dX4_init_53 : decode cX4_init 53 = .ok (.bipush (-9), 2) := by decide +kernel
theorem dX4_init_55 : decode cX4_init 55 = .ok (.iastore, 1) := by decide +kernel
theorem dX4_init_56 : decode cX4_init 56 = .ok (.iinc 2 1, 3) := by decide +kernel
theorem dX4_init_59 : decode cX4_init 59 = .ok (.goto (-17), 3) := by decide +kernel
theorem dX4_init_62 : decode cX4_init 62 = .ok (.return_, 1) := by decide +kernel
theorem dX4_beginWith_0 : decode cX4_beginWith 0 = .ok (.aload_n 1, 1) := by decide +kernel
theorem dX4_beginWith_1 : decode cX4_beginWith 1 = .ok (.getfield 28, 3) := by decide +kernel
theorem dX4_beginWith_4 : decode cX4_beginWith 4 = .ok (.iconst 0, 1) := by decide +kernel
theorem dX4_beginWith_5 : decode cX4_beginWith 5 = .ok (.aload_n 0, 1) := by decide +kernel
theorem dX4_beginWith_6 : decode cX4_beginWith 6 = .ok (.getfield 9, 3) := by decide +kernel
theorem dX4_beginWith_9 : decode cX4_beginWith 9 = .ok (.iconst 0, 1) := by decide +kernel
theorem dX4_beginWith_10 : decode cX4_beginWith 10 = .ok (.bipush 16, 2) := by decide +kernel
theorem dX4_beginWith_12 : decode cX4_beginWith 12 = .ok (.invokestatic 31, 3) := by decide +kernel
theorem dX4_beginWith_15 : decode cX4_beginWith 15 = .ok (.aload_n 0, 1) := by decide +kernel
theorem dX4_beginWith_16 : decode cX4_beginWith 16 = .ok (.aload_n 1, 1) := by decide +kernel
theorem dX4_beginWith_17 : decode cX4_beginWith 17 = .ok (.getfield 37, 3) := by decide +kernel
theorem dX4_beginWith_20 : decode cX4_beginWith 20 = .ok (.putfield 41, 3) := by decide +kernel
theorem dX4_beginWith_23 : decode cX4_beginWith 23 = .ok (.aload_n 0, 1) := by decide +kernel
theorem dX4_beginWith_24 : decode cX4_beginWith 24 = .ok (.invokevirtual 42, 3) := by decide +kernel
theorem dX4_beginWith_27 : decode cX4_beginWith 27 = .ok (.iconst 0, 1) := by decide +kernel
theorem dX4_beginWith_28 : decode cX4_beginWith 28 = .ok (.istore_n 2, 1) := by decide +kernel
theorem dX4_beginWith_29 : decode cX4_beginWith 29 = .ok (.iload_n 2, 1) := by decide +kernel
theorem dX4_beginWith_30 : decode cX4_beginWith 30 = .ok (.bipush 12, 2) := by decide +kernel
theorem dX4_beginWith_32 : decode cX4_beginWith 32 = .ok (.if_icmp .ge 17, 3) := by decide +kernel
theorem dX4_beginWith_35 : decode cX4_beginWith 35 = .ok (.aload_n 0, 1) := by decide +kernel
theorem dX4_beginWith_36 : decode cX4_beginWith 36 = .ok (.getfield 18, 3) := by decide +kernel
theorem dX4_beginWith_39 : decode cX4_beginWith 39 = .ok (.iload_n 2, 1) := by decide +kernel
theorem dX4_beginWith_40 : decode cX4_beginWith 40 = .ok (.bipush (-9), 2) := by decide +kernel
theorem dX4_beginWith_42 : decode cX4_beginWith 42 = .ok (.iastore, 1) := by decide +kernel
theorem dX4_beginWith_43 : decode cX4_beginWith 43 = .ok (.iinc 2 1, 3) := by decide +kernel
theorem dX4_beginWith_46 : decode cX4_beginWith 46 = .ok (.goto (-17), 3) := by decide +kernel
theorem dX4_beginWith_49 : decode cX4_beginWith 49 = .ok (.return_, 1) := by decide +kernel
theorem dX4_takeFrom_0 : decode cX4_takeFrom 0 = .ok (.aload_n 1, 1) := by decide +kernel
theorem dX4_takeFrom_1 : decode cX4_takeFrom 1 = .ok (.getfield 9, 3) := by decide +kernel
theorem dX4_takeFrom_4 : decode cX4_takeFrom 4 = .ok (.iconst 0, 1) := by decide +kernel
theorem dX4_takeFrom_5 : decode cX4_takeFrom 5 = .ok (.aload_n 0, 1) := by decide +kernel
theorem dX4_takeFrom_6 : decode cX4_takeFrom 6 = .ok (.getfield 9, 3) := by decide +kernel
theorem dX4_takeFrom_9 : decode cX4_takeFrom 9 = .ok (.iconst 0, 1) := by decide +kernel
theorem dX4_takeFrom_10 : decode cX4_takeFrom 10 = .ok (.bipush 16, 2) := by decide +kernel
theorem dX4_takeFrom_12 : decode cX4_takeFrom 12 = .ok (.invokestatic 31, 3) := by decide +kernel
theorem dX4_takeFrom_15 : decode cX4_takeFrom 15 = .ok (.aload_n 1, 1) := by decide +kernel
theorem dX4_takeFrom_16 : decode cX4_takeFrom 16 = .ok (.getfield 15, 3) := by decide +kernel
theorem dX4_takeFrom_19 : decode cX4_takeFrom 19 = .ok (.iconst 0, 1) := by decide +kernel
theorem dX4_takeFrom_20 : decode cX4_takeFrom 20 = .ok (.aload_n 0, 1) := by decide +kernel
theorem dX4_takeFrom_21 : decode cX4_takeFrom 21 = .ok (.getfield 15, 3) := by decide +kernel
theorem dX4_takeFrom_24 : decode cX4_takeFrom 24 = .ok (.iconst 0, 1) := by decide +kernel
theorem dX4_takeFrom_25 : decode cX4_takeFrom 25 = .ok (.iconst 4, 1) := by decide +kernel
theorem dX4_takeFrom_26 : decode cX4_takeFrom 26 = .ok (.invokestatic 31, 3) := by decide +kernel
theorem dX4_takeFrom_29 : decode cX4_takeFrom 29 = .ok (.aload_n 1, 1) := by decide +kernel
theorem dX4_takeFrom_30 : decode cX4_takeFrom 30 = .ok (.getfield 18, 3) := by decide +kernel
theorem dX4_takeFrom_33 : decode cX4_takeFrom 33 = .ok (.iconst 0, 1) := by decide +kernel
theorem dX4_takeFrom_34 : decode cX4_takeFrom 34 = .ok (.aload_n 0, 1) := by decide +kernel
theorem dX4_takeFrom_35 : decode cX4_takeFrom 35 = .ok (.getfield 18, 3) := by decide +kernel
theorem dX4_takeFrom_38 : decode cX4_takeFrom 38 = .ok (.iconst 0, 1) := by decide +kernel
theorem dX4_takeFrom_39 : decode cX4_takeFrom 39 = .ok (.bipush 12, 2) := by decide +kernel
theorem dX4_takeFrom_41 : decode cX4_takeFrom 41 = .ok (.invokestatic 31, 3) := by decide +kernel
theorem dX4_takeFrom_44 : decode cX4_takeFrom 44 = .ok (.aload_n 0, 1) := by decide +kernel
theorem dX4_takeFrom_45 : decode cX4_takeFrom 45 = .ok (.aload_n 1, 1) := by decide +kernel
theorem dX4_takeFrom_46 : decode cX4_takeFrom 46 = .ok (.getfield 41, 3) := by decide +kernel
theorem dX4_takeFrom_49 : decode cX4_takeFrom 49 = .ok (.putfield 41, 3) := by decide +kernel
theorem dX4_takeFrom_52 : decode cX4_takeFrom 52 = .ok (.return_, 1) := by decide +kernel
theorem dX4_hasChange_0 : decode cX4_hasChange 0 = .ok (.iload_n 1, 1) := by decide +kernel
theorem dX4_hasChange_1 : decode cX4_hasChange 1 = .ok (.ifCond .lt 15, 3) := by decide +kernel
theorem dX4_hasChange_4 : decode cX4_hasChange 4 = .ok (.iload_n 1, 1) := by decide +kernel
theorem dX4_hasChange_5 : decode cX4_hasChange 5 = .ok (.aload_n 0, 1) := by decide +kernel
theorem dX4_hasChange_6 : decode cX4_hasChange 6 = .ok (.getfield 41, 3) := by decide +kernel
theorem dX4_hasChange_9 : decode cX4_hasChange 9 = .ok (.if_icmp .ge 7, 3) := by decide +kernel
theorem dX4_hasChange_12 : decode cX4_hasChange 12 = .ok (.iconst 1, 1) := by decide +kernel
theorem dX4_hasChange_13 : decode cX4_hasChange 13 = .ok (.goto 4, 3) := by decide +kernel
theorem dX4_hasChange_16 : decode cX4_hasChange 16 = .ok (.iconst 0, 1) := by decide +kernel
theorem dX4_hasChange_17 : decode cX4_hasChange 17 = .ok (.ireturn, 1) := by decide +kernel
theorem dX4_allChanges_0 : decode cX4_allChanges 0 = .ok (.iconst 1, 1) := by decide +kernel
theorem dX4_allChanges_1 : decode cX4_allChanges 1 = .ok (.aload_n 0, 1) := by decide +kernel
theorem dX4_allChanges_2 : decode cX4_allChanges 2 = .ok (.getfield 41, 3) := by decide +kernel
theorem dX4_allChanges_5 : decode cX4_allChanges 5 = .ok (.ishl, 1) := by decide +kernel
theorem dX4_allChanges_6 : decode cX4_allChanges 6 = .ok (.iconst 1, 1) := by decide +kernel
theorem dX4_allChanges_7 : decode cX4_allChanges 7 = .ok (.isub, 1) := by decide +kernel
theorem dX4_allChanges_8 : decode cX4_allChanges 8 = .ok (.ireturn, 1) := by decide +kernel
theorem dX4_signOf_0 : decode cX4_signOf 0 = .ok (.aload_n 0, 1) := by decide +kernel
theorem dX4_signOf_1 : decode cX4_signOf 1 = .ok (.getfield 9, 3) := by decide +kernel
theorem dX4_signOf_4 : decode cX4_signOf 4 = .ok (.iload_n 1, 1) := by decide +kernel
theorem dX4_signOf_5 : decode cX4_signOf 5 = .ok (.iconst 4, 1) := by decide +kernel
theorem dX4_signOf_6 : decode cX4_signOf 6 = .ok (.imul, 1) := by decide +kernel
theorem dX4_signOf_7 : decode cX4_signOf 7 = .ok (.iload_n 2, 1) := by decide +kernel
theorem dX4_signOf_8 : decode cX4_signOf 8 = .ok (.iadd, 1) := by decide +kernel
theorem dX4_signOf_9 : decode cX4_signOf 9 = .ok (.iaload, 1) := by decide +kernel
theorem dX4_signOf_10 : decode cX4_signOf 10 = .ok (.ireturn, 1) := by decide +kernel
theorem dX4_putSign_0 : decode cX4_putSign 0 = .ok (.aload_n 0, 1) := by decide +kernel
theorem dX4_putSign_1 : decode cX4_putSign 1 = .ok (.getfield 9, 3) := by decide +kernel
theorem dX4_putSign_4 : decode cX4_putSign 4 = .ok (.iload_n 1, 1) := by decide +kernel
theorem dX4_putSign_5 : decode cX4_putSign 5 = .ok (.iconst 4, 1) := by decide +kernel
theorem dX4_putSign_6 : decode cX4_putSign 6 = .ok (.imul, 1) := by decide +kernel
theorem dX4_putSign_7 : decode cX4_putSign 7 = .ok (.iload_n 2, 1) := by decide +kernel
theorem dX4_putSign_8 : decode cX4_putSign 8 = .ok (.iadd, 1) := by decide +kernel
theorem dX4_putSign_9 : decode cX4_putSign 9 = .ok (.iload_n 3, 1) := by decide +kernel
theorem dX4_putSign_10 : decode cX4_putSign 10 = .ok (.iastore, 1) := by decide +kernel
theorem dX4_putSign_11 : decode cX4_putSign 11 = .ok (.return_, 1) := by decide +kernel
theorem dX4_formOf_0 : decode cX4_formOf 0 = .ok (.aload_n 0, 1) := by decide +kernel
theorem dX4_formOf_1 : decode cX4_formOf 1 = .ok (.getfield 18, 3) := by decide +kernel
theorem dX4_formOf_4 : decode cX4_formOf 4 = .ok (.iload_n 1, 1) := by decide +kernel
theorem dX4_formOf_5 : decode cX4_formOf 5 = .ok (.iconst 3, 1) := by decide +kernel
theorem dX4_formOf_6 : decode cX4_formOf 6 = .ok (.imul, 1) := by decide +kernel
theorem dX4_formOf_7 : decode cX4_formOf 7 = .ok (.iload_n 2, 1) := by decide +kernel
theorem dX4_formOf_8 : decode cX4_formOf 8 = .ok (.iadd, 1) := by decide +kernel
theorem dX4_formOf_9 : decode cX4_formOf 9 = .ok (.iaload, 1) := by decide +kernel
theorem dX4_formOf_10 : decode cX4_formOf 10 = .ok (.ireturn, 1) := by decide +kernel
theorem dX4_putForm_0 : decode cX4_putForm 0 = .ok (.aload_n 0, 1) := by decide +kernel
theorem dX4_putForm_1 : decode cX4_putForm 1 = .ok (.getfield 18, 3) := by decide +kernel
theorem dX4_putForm_4 : decode cX4_putForm 4 = .ok (.iload_n 1, 1) := by decide +kernel
theorem dX4_putForm_5 : decode cX4_putForm 5 = .ok (.iconst 3, 1) := by decide +kernel
theorem dX4_putForm_6 : decode cX4_putForm 6 = .ok (.imul, 1) := by decide +kernel
theorem dX4_putForm_7 : decode cX4_putForm 7 = .ok (.iload_n 2, 1) := by decide +kernel
theorem dX4_putForm_8 : decode cX4_putForm 8 = .ok (.iadd, 1) := by decide +kernel
theorem dX4_putForm_9 : decode cX4_putForm 9 = .ok (.iload_n 3, 1) := by decide +kernel
theorem dX4_putForm_10 : decode cX4_putForm 10 = .ok (.iastore, 1) := by decide +kernel
theorem dX4_putForm_11 : decode cX4_putForm 11 = .ok (.return_, 1) := by decide +kernel
theorem dX4_formCount_0 : decode cX4_formCount 0 = .ok (.iconst 0, 1) := by decide +kernel
theorem dX4_formCount_1 : decode cX4_formCount 1 = .ok (.istore_n 1, 1) := by decide +kernel
theorem dX4_formCount_2 : decode cX4_formCount 2 = .ok (.iconst 0, 1) := by decide +kernel
theorem dX4_formCount_3 : decode cX4_formCount 3 = .ok (.istore_n 2, 1) := by decide +kernel
theorem dX4_formCount_4 : decode cX4_formCount 4 = .ok (.iload_n 2, 1) := by decide +kernel
theorem dX4_formCount_5 : decode cX4_formCount 5 = .ok (.bipush 12, 2) := by decide +kernel
theorem dX4_formCount_7 : decode cX4_formCount 7 = .ok (.if_icmp .ge 23, 3) := by decide +kernel
theorem dX4_formCount_10 : decode cX4_formCount 10 = .ok (.aload_n 0, 1) := by decide +kernel
theorem dX4_formCount_11 : decode cX4_formCount 11 = .ok (.getfield 18, 3) := by decide +kernel
theorem dX4_formCount_14 : decode cX4_formCount 14 = .ok (.iload_n 2, 1) := by decide +kernel
theorem dX4_formCount_15 : decode cX4_formCount 15 = .ok (.iaload, 1) := by decide +kernel
theorem dX4_formCount_16 : decode cX4_formCount 16 = .ok (.bipush (-9), 2) := by decide +kernel
theorem dX4_formCount_18 : decode cX4_formCount 18 = .ok (.if_icmp .eq 6, 3) := by decide +kernel
theorem dX4_formCount_21 : decode cX4_formCount 21 = .ok (.iinc 1 1, 3) := by decide +kernel
theorem dX4_formCount_24 : decode cX4_formCount 24 = .ok (.iinc 2 1, 3) := by decide +kernel
theorem dX4_formCount_27 : decode cX4_formCount 27 = .ok (.goto (-23), 3) := by decide +kernel
theorem dX4_formCount_30 : decode cX4_formCount 30 = .ok (.iload_n 1, 1) := by decide +kernel
theorem dX4_formCount_31 : decode cX4_formCount 31 = .ok (.ireturn, 1) := by decide +kernel
theorem dX4_orderByNumber_0 : decode cX4_orderByNumber 0 = .ok (.iconst 0, 1) := by decide +kernel
theorem dX4_orderByNumber_1 : decode cX4_orderByNumber 1 = .ok (.istore_n 1, 1) := by decide +kernel
theorem dX4_orderByNumber_2 : decode cX4_orderByNumber 2 = .ok (.iload_n 1, 1) := by decide +kernel
theorem dX4_orderByNumber_3 : decode cX4_orderByNumber 3 = .ok (.iconst 4, 1) := by decide +kernel
theorem dX4_orderByNumber_4 : decode cX4_orderByNumber 4 = .ok (.if_icmp .ge 16, 3) := by decide +kernel
theorem dX4_orderByNumber_7 : decode cX4_orderByNumber 7 = .ok (.aload_n 0, 1) := by decide +kernel
theorem dX4_orderByNumber_8 : decode cX4_orderByNumber 8 = .ok (.getfield 15, 3) := by decide +kernel
theorem dX4_orderByNumber_11 : decode cX4_orderByNumber 11 = .ok (.iload_n 1, 1) := by decide +kernel
theorem dX4_orderByNumber_12 : decode cX4_orderByNumber 12 = .ok (.iload_n 1, 1) := by decide +kernel
theorem dX4_orderByNumber_13 : decode cX4_orderByNumber 13 = .ok (.iastore, 1) := by decide +kernel
theorem dX4_orderByNumber_14 : decode cX4_orderByNumber 14 = .ok (.iinc 1 1, 3) := by decide +kernel
theorem dX4_orderByNumber_17 : decode cX4_orderByNumber 17 = .ok (.goto (-15), 3) := by decide +kernel
theorem dX4_orderByNumber_20 : decode cX4_orderByNumber 20 = .ok (.return_, 1) := by decide +kernel
theorem dX4_exchange_0 : decode cX4_exchange 0 = .ok (.aload_n 0, 1) := by decide +kernel
theorem dX4_exchange_1 : decode cX4_exchange 1 = .ok (.getfield 15, 3) := by decide +kernel
theorem dX4_exchange_4 : decode cX4_exchange 4 = .ok (.iload_n 1, 1) := by decide +kernel
theorem dX4_exchange_5 : decode cX4_exchange 5 = .ok (.iaload, 1) := by decide +kernel
theorem dX4_exchange_6 : decode cX4_exchange 6 = .ok (.istore_n 3, 1) := by decide +kernel
theorem dX4_exchange_7 : decode cX4_exchange 7 = .ok (.aload_n 0, 1) := by decide +kernel
theorem dX4_exchange_8 : decode cX4_exchange 8 = .ok (.getfield 15, 3) := by decide +kernel
theorem dX4_exchange_11 : decode cX4_exchange 11 = .ok (.iload_n 1, 1) := by decide +kernel
theorem dX4_exchange_12 : decode cX4_exchange 12 = .ok (.aload_n 0, 1) := by decide +kernel
theorem dX4_exchange_13 : decode cX4_exchange 13 = .ok (.getfield 15, 3) := by decide +kernel
theorem dX4_exchange_16 : decode cX4_exchange 16 = .ok (.iload_n 2, 1) := by decide +kernel
theorem dX4_exchange_17 : decode cX4_exchange 17 = .ok (.iaload, 1) := by decide +kernel
theorem dX4_exchange_18 : decode cX4_exchange 18 = .ok (.iastore, 1) := by decide +kernel
theorem dX4_exchange_19 : decode cX4_exchange 19 = .ok (.aload_n 0, 1) := by decide +kernel
theorem dX4_exchange_20 : decode cX4_exchange 20 = .ok (.getfield 15, 3) := by decide +kernel
theorem dX4_exchange_23 : decode cX4_exchange 23 = .ok (.iload_n 2, 1) := by decide +kernel
theorem dX4_exchange_24 : decode cX4_exchange 24 = .ok (.iload_n 3, 1) := by decide +kernel
theorem dX4_exchange_25 : decode cX4_exchange 25 = .ok (.iastore, 1) := by decide +kernel
theorem dX4_exchange_26 : decode cX4_exchange 26 = .ok (.return_, 1) := by decide +kernel
theorem dX4_goToNextOrder_0 : decode cX4_goToNextOrder 0 = .ok (.aload_n 0, 1) := by decide +kernel
theorem dX4_goToNextOrder_1 : decode cX4_goToNextOrder 1 = .ok (.getfield 41, 3) := by decide +kernel
theorem dX4_goToNextOrder_4 : decode cX4_goToNextOrder 4 = .ok (.iconst 2, 1) := by decide +kernel
theorem dX4_goToNextOrder_5 : decode cX4_goToNextOrder 5 = .ok (.isub, 1) := by decide +kernel
theorem dX4_goToNextOrder_6 : decode cX4_goToNextOrder 6 = .ok (.istore_n 1, 1) := by decide +kernel
theorem dX4_goToNextOrder_7 : decode cX4_goToNextOrder 7 = .ok (.iload_n 1, 1) := by decide +kernel
theorem dX4_goToNextOrder_8 : decode cX4_goToNextOrder 8 = .ok (.ifCond .lt 26, 3) := by decide +kernel
theorem dX4_goToNextOrder_11 : decode cX4_goToNextOrder 11 = .ok (.aload_n 0, 1) := by decide +kernel
theorem dX4_goToNextOrder_12 : decode cX4_goToNextOrder 12 = .ok (.getfield 15, 3) := by decide +kernel
theorem dX4_goToNextOrder_15 : decode cX4_goToNextOrder 15 = .ok (.iload_n 1, 1) := by decide +kernel
theorem dX4_goToNextOrder_16 : decode cX4_goToNextOrder 16 = .ok (.iaload, 1) := by decide +kernel
theorem dX4_goToNextOrder_17 : decode cX4_goToNextOrder 17 = .ok (.aload_n 0, 1) := by decide +kernel
theorem dX4_goToNextOrder_18 : decode cX4_goToNextOrder 18 = .ok (.getfield 15, 3) := by decide +kernel
theorem dX4_goToNextOrder_21 : decode cX4_goToNextOrder 21 = .ok (.iload_n 1, 1) := by decide +kernel
theorem dX4_goToNextOrder_22 : decode cX4_goToNextOrder 22 = .ok (.iconst 1, 1) := by decide +kernel
theorem dX4_goToNextOrder_23 : decode cX4_goToNextOrder 23 = .ok (.iadd, 1) := by decide +kernel
theorem dX4_goToNextOrder_24 : decode cX4_goToNextOrder 24 = .ok (.iaload, 1) := by decide +kernel
theorem dX4_goToNextOrder_25 : decode cX4_goToNextOrder 25 = .ok (.if_icmp .le 9, 3) := by decide +kernel
theorem dX4_goToNextOrder_28 : decode cX4_goToNextOrder 28 = .ok (.iinc 1 (-1), 3) := by decide +kernel
theorem dX4_goToNextOrder_31 : decode cX4_goToNextOrder 31 = .ok (.goto (-24), 3) := by decide +kernel
theorem dX4_goToNextOrder_34 : decode cX4_goToNextOrder 34 = .ok (.iload_n 1, 1) := by decide +kernel
theorem dX4_goToNextOrder_35 : decode cX4_goToNextOrder 35 = .ok (.ifCond .ge 5, 3) := by decide +kernel
theorem dX4_goToNextOrder_38 : decode cX4_goToNextOrder 38 = .ok (.iconst 0, 1) := by decide +kernel
theorem dX4_goToNextOrder_39 : decode cX4_goToNextOrder 39 = .ok (.ireturn, 1) := by decide +kernel
theorem dX4_goToNextOrder_40 : decode cX4_goToNextOrder 40 = .ok (.aload_n 0, 1) := by decide +kernel
theorem dX4_goToNextOrder_41 : decode cX4_goToNextOrder 41 = .ok (.getfield 41, 3) := by decide +kernel
theorem dX4_goToNextOrder_44 : decode cX4_goToNextOrder 44 = .ok (.iconst 1, 1) := by decide +kernel
theorem dX4_goToNextOrder_45 : decode cX4_goToNextOrder 45 = .ok (.isub, 1) := by decide +kernel
theorem dX4_goToNextOrder_46 : decode cX4_goToNextOrder 46 = .ok (.istore_n 2, 1) := by decide +kernel
theorem dX4_goToNextOrder_47 : decode cX4_goToNextOrder 47 = .ok (.iload_n 2, 1) := by decide +kernel
theorem dX4_goToNextOrder_48 : decode cX4_goToNextOrder 48 = .ok (.iload_n 1, 1) := by decide +kernel
theorem dX4_goToNextOrder_49 : decode cX4_goToNextOrder 49 = .ok (.if_icmp .le 24, 3) := by decide +kernel
theorem dX4_goToNextOrder_52 : decode cX4_goToNextOrder 52 = .ok (.aload_n 0, 1) := by decide +kernel
theorem dX4_goToNextOrder_53 : decode cX4_goToNextOrder 53 = .ok (.getfield 15, 3) := by decide +kernel
theorem dX4_goToNextOrder_56 : decode cX4_goToNextOrder 56 = .ok (.iload_n 2, 1) := by decide +kernel
theorem dX4_goToNextOrder_57 : decode cX4_goToNextOrder 57 = .ok (.iaload, 1) := by decide +kernel
theorem dX4_goToNextOrder_58 : decode cX4_goToNextOrder 58 = .ok (.aload_n 0, 1) := by decide +kernel
theorem dX4_goToNextOrder_59 : decode cX4_goToNextOrder 59 = .ok (.getfield 15, 3) := by decide +kernel
theorem dX4_goToNextOrder_62 : decode cX4_goToNextOrder 62 = .ok (.iload_n 1, 1) := by decide +kernel
theorem dX4_goToNextOrder_63 : decode cX4_goToNextOrder 63 = .ok (.iaload, 1) := by decide +kernel
theorem dX4_goToNextOrder_64 : decode cX4_goToNextOrder 64 = .ok (.if_icmp .ge 9, 3) := by decide +kernel
theorem dX4_goToNextOrder_67 : decode cX4_goToNextOrder 67 = .ok (.iinc 2 (-1), 3) := by decide +kernel
theorem dX4_goToNextOrder_70 : decode cX4_goToNextOrder 70 = .ok (.goto (-23), 3) := by decide +kernel
theorem dX4_goToNextOrder_73 : decode cX4_goToNextOrder 73 = .ok (.aload_n 0, 1) := by decide +kernel
theorem dX4_goToNextOrder_74 : decode cX4_goToNextOrder 74 = .ok (.iload_n 1, 1) := by decide +kernel
theorem dX4_goToNextOrder_75 : decode cX4_goToNextOrder 75 = .ok (.iload_n 2, 1) := by decide +kernel
theorem dX4_goToNextOrder_76 : decode cX4_goToNextOrder 76 = .ok (.invokevirtual 45, 3) := by decide +kernel
theorem dX4_goToNextOrder_79 : decode cX4_goToNextOrder 79 = .ok (.iload_n 1, 1) := by decide +kernel
theorem dX4_goToNextOrder_80 : decode cX4_goToNextOrder 80 = .ok (.iconst 1, 1) := by decide +kernel
theorem dX4_goToNextOrder_81 : decode cX4_goToNextOrder 81 = .ok (.iadd, 1) := by decide +kernel
theorem dX4_goToNextOrder_82 : decode cX4_goToNextOrder 82 = .ok (.istore_n 3, 1) := by decide +kernel
theorem dX4_goToNextOrder_83 : decode cX4_goToNextOrder 83 = .ok (.aload_n 0, 1) := by decide +kernel
theorem dX4_goToNextOrder_84 : decode cX4_goToNextOrder 84 = .ok (.getfield 41, 3) := by decide +kernel
theorem dX4_goToNextOrder_87 : decode cX4_goToNextOrder 87 = .ok (.iconst 1, 1) := by decide +kernel
theorem dX4_goToNextOrder_88 : decode cX4_goToNextOrder 88 = .ok (.isub, 1) := by decide +kernel
theorem dX4_goToNextOrder_89 : decode cX4_goToNextOrder 89 = .ok (.istore 4, 2) := by decide +kernel
theorem dX4_goToNextOrder_91 : decode cX4_goToNextOrder 91 = .ok (.iload_n 3, 1) := by decide +kernel
theorem dX4_goToNextOrder_92 : decode cX4_goToNextOrder 92 = .ok (.iload 4, 2) := by decide +kernel
theorem dX4_goToNextOrder_94 : decode cX4_goToNextOrder 94 = .ok (.if_icmp .ge 19, 3) := by decide +kernel
theorem dX4_goToNextOrder_97 : decode cX4_goToNextOrder 97 = .ok (.aload_n 0, 1) := by decide +kernel
theorem dX4_goToNextOrder_98 : decode cX4_goToNextOrder 98 = .ok (.iload_n 3, 1) := by decide +kernel
theorem dX4_goToNextOrder_99 : decode cX4_goToNextOrder 99 = .ok (.iload 4, 2) := by decide +kernel
theorem dX4_goToNextOrder_101 : decode cX4_goToNextOrder 101 = .ok (.invokevirtual 45, 3) := by decide +kernel
theorem dX4_goToNextOrder_104 : decode cX4_goToNextOrder 104 = .ok (.iinc 3 1, 3) := by decide +kernel
theorem dX4_goToNextOrder_107 : decode cX4_goToNextOrder 107 = .ok (.iinc 4 (-1), 3) := by decide +kernel
theorem dX4_goToNextOrder_110 : decode cX4_goToNextOrder 110 = .ok (.goto (-19), 3) := by decide +kernel
theorem dX4_goToNextOrder_113 : decode cX4_goToNextOrder 113 = .ok (.iconst 1, 1) := by decide +kernel
theorem dX4_goToNextOrder_114 : decode cX4_goToNextOrder 114 = .ok (.ireturn, 1) := by decide +kernel
theorem dX4_orderFigures_0 : decode cX4_orderFigures 0 = .ok (.iconst 0, 1) := by decide +kernel
theorem dX4_orderFigures_1 : decode cX4_orderFigures 1 = .ok (.istore_n 1, 1) := by decide +kernel
theorem dX4_orderFigures_2 : decode cX4_orderFigures 2 = .ok (.iconst 0, 1) := by decide +kernel
theorem dX4_orderFigures_3 : decode cX4_orderFigures 3 = .ok (.istore_n 2, 1) := by decide +kernel
theorem dX4_orderFigures_4 : decode cX4_orderFigures 4 = .ok (.iload_n 2, 1) := by decide +kernel
theorem dX4_orderFigures_5 : decode cX4_orderFigures 5 = .ok (.aload_n 0, 1) := by decide +kernel
theorem dX4_orderFigures_6 : decode cX4_orderFigures 6 = .ok (.getfield 41, 3) := by decide +kernel
theorem dX4_orderFigures_9 : decode cX4_orderFigures 9 = .ok (.if_icmp .ge 21, 3) := by decide +kernel
theorem dX4_orderFigures_12 : decode cX4_orderFigures 12 = .ok (.bipush 10, 2) := by decide +kernel
theorem dX4_orderFigures_14 : decode cX4_orderFigures 14 = .ok (.iload_n 1, 1) := by decide +kernel
theorem dX4_orderFigures_15 : decode cX4_orderFigures 15 = .ok (.imul, 1) := by decide +kernel
theorem dX4_orderFigures_16 : decode cX4_orderFigures 16 = .ok (.aload_n 0, 1) := by decide +kernel
theorem dX4_orderFigures_17 : decode cX4_orderFigures 17 = .ok (.getfield 15, 3) := by decide +kernel
theorem dX4_orderFigures_20 : decode cX4_orderFigures 20 = .ok (.iload_n 2, 1) := by decide +kernel
theorem dX4_orderFigures_21 : decode cX4_orderFigures 21 = .ok (.iaload, 1) := by decide +kernel
theorem dX4_orderFigures_22 : decode cX4_orderFigures 22 = .ok (.iadd, 1) := by decide +kernel
theorem dX4_orderFigures_23 : decode cX4_orderFigures 23 = .ok (.istore_n 1, 1) := by decide +kernel
theorem dX4_orderFigures_24 : decode cX4_orderFigures 24 = .ok (.iinc 2 1, 3) := by decide +kernel
theorem dX4_orderFigures_27 : decode cX4_orderFigures 27 = .ok (.goto (-23), 3) := by decide +kernel
theorem dX4_orderFigures_30 : decode cX4_orderFigures 30 = .ok (.iload_n 1, 1) := by decide +kernel
theorem dX4_orderFigures_31 : decode cX4_orderFigures 31 = .ok (.ireturn, 1) := by decide +kernel
theorem dX4_goOver_0 : decode cX4_goOver 0 = .ok (.aload_n 0, 1) := by decide +kernel
theorem dX4_goOver_1 : decode cX4_goOver 1 = .ok (.iload_n 1, 1) := by decide +kernel
theorem dX4_goOver_2 : decode cX4_goOver 2 = .ok (.iconst 0, 1) := by decide +kernel
theorem dX4_goOver_3 : decode cX4_goOver 3 = .ok (.invokevirtual 49, 3) := by decide +kernel
theorem dX4_goOver_6 : decode cX4_goOver 6 = .ok (.istore_n 3, 1) := by decide +kernel
theorem dX4_goOver_7 : decode cX4_goOver 7 = .ok (.iconst 0, 1) := by decide +kernel
theorem dX4_goOver_8 : decode cX4_goOver 8 = .ok (.istore 4, 2) := by decide +kernel
theorem dX4_goOver_10 : decode cX4_goOver 10 = .ok (.iconst 1, 1) := by decide +kernel
theorem dX4_goOver_11 : decode cX4_goOver 11 = .ok (.istore 5, 2) := by decide +kernel
theorem dX4_goOver_13 : decode cX4_goOver 13 = .ok (.iconst 0, 1) := by decide +kernel
theorem dX4_goOver_14 : decode cX4_goOver 14 = .ok (.istore 6, 2) := by decide +kernel
theorem dX4_goOver_16 : decode cX4_goOver 16 = .ok (.iload_n 2, 1) := by decide +kernel
theorem dX4_goOver_17 : decode cX4_goOver 17 = .ok (.istore 7, 2) := by decide +kernel
theorem dX4_goOver_19 : decode cX4_goOver 19 = .ok (.iconst 0, 1) := by decide +kernel
theorem dX4_goOver_20 : decode cX4_goOver 20 = .ok (.istore 8, 2) := by decide +kernel
theorem dX4_goOver_22 : decode cX4_goOver 22 = .ok (.iload 8, 2) := by decide +kernel
theorem dX4_goOver_24 : decode cX4_goOver 24 = .ok (.bipush 6, 2) := by decide +kernel
theorem dX4_goOver_26 : decode cX4_goOver 26 = .ok (.if_icmp .ge 116, 3) := by decide +kernel
theorem dX4_goOver_29 : decode cX4_goOver 29 = .ok (.iload 7, 2) := by decide +kernel
theorem dX4_goOver_31 : decode cX4_goOver 31 = .ok (.ifCond .le 111, 3) := by decide +kernel
theorem dX4_goOver_34 : decode cX4_goOver 34 = .ok (.iload 7, 2) := by decide +kernel
theorem dX4_goOver_36 : decode cX4_goOver 36 = .ok (.bipush 10, 2) := by decide +kernel
theorem dX4_goOver_38 : decode cX4_goOver 38 = .ok (.irem, 1) := by decide +kernel
theorem dX4_goOver_39 : decode cX4_goOver 39 = .ok (.istore 9, 2) := by decide +kernel
theorem dX4_goOver_41 : decode cX4_goOver 41 = .ok (.iload 7, 2) := by decide +kernel
theorem dX4_goOver_43 : decode cX4_goOver 43 = .ok (.bipush 10, 2) := by decide +kernel
theorem dX4_goOver_45 : decode cX4_goOver 45 = .ok (.idiv, 1) := by decide +kernel
theorem dX4_goOver_46 : decode cX4_goOver 46 = .ok (.istore 7, 2) := by decide +kernel
theorem dX4_goOver_48 : decode cX4_goOver 48 = .ok (.iload 9, 2) := by decide +kernel
theorem dX4_goOver_50 : decode cX4_goOver 50 = .ok (.iload_n 3, 1) := by decide +kernel
theorem dX4_goOver_51 : decode cX4_goOver 51 = .ok (.if_icmp .ne 38, 3) := by decide +kernel
theorem dX4_goOver_54 : decode cX4_goOver 54 = .ok (.aload_n 0, 1) := by decide +kernel
theorem dX4_goOver_55 : decode cX4_goOver 55 = .ok (.iload_n 1, 1) := by decide +kernel
theorem dX4_goOver_56 : decode cX4_goOver 56 = .ok (.iconst 2, 1) := by decide +kernel
theorem dX4_goOver_57 : decode cX4_goOver 57 = .ok (.invokevirtual 49, 3) := by decide +kernel
theorem dX4_goOver_60 : decode cX4_goOver 60 = .ok (.iload 7, 2) := by decide +kernel
theorem dX4_goOver_62 : decode cX4_goOver 62 = .ok (.bipush 10, 2) := by decide +kernel
theorem dX4_goOver_64 : decode cX4_goOver 64 = .ok (.irem, 1) := by decide +kernel
theorem dX4_goOver_65 : decode cX4_goOver 65 = .ok (.invokestatic 53, 3) := by decide +kernel
theorem dX4_goOver_68 : decode cX4_goOver 68 = .ok (.ifCond .eq 21, 3) := by decide +kernel
theorem dX4_goOver_71 : decode cX4_goOver 71 = .ok (.aload_n 0, 1) := by decide +kernel
theorem dX4_goOver_72 : decode cX4_goOver 72 = .ok (.iload_n 1, 1) := by decide +kernel
theorem dX4_goOver_73 : decode cX4_goOver 73 = .ok (.iconst 3, 1) := by decide +kernel
theorem dX4_goOver_74 : decode cX4_goOver 74 = .ok (.invokevirtual 49, 3) := by decide +kernel
theorem dX4_goOver_77 : decode cX4_goOver 77 = .ok (.iload 6, 2) := by decide +kernel
theorem dX4_goOver_79 : decode cX4_goOver 79 = .ok (.invokestatic 53, 3) := by decide +kernel
theorem dX4_goOver_82 : decode cX4_goOver 82 = .ok (.ifCond .eq 7, 3) := by decide +kernel
theorem dX4_goOver_85 : decode cX4_goOver 85 = .ok (.iconst 1, 1) := by decide +kernel
theorem dX4_goOver_86 : decode cX4_goOver 86 = .ok (.goto 4, 3) := by decide +kernel
theorem dX4_goOver_89 : decode cX4_goOver 89 = .ok (.iconst 0, 1) := by decide +kernel
theorem dX4_goOver_90 : decode cX4_goOver 90 = .ok (.istore 10, 2) := by decide +kernel
theorem dX4_goOver_92 : decode cX4_goOver 92 = .ok (.iload 10, 2) := by decide +kernel
theorem dX4_goOver_94 : decode cX4_goOver 94 = .ok (.ifCond .eq 12, 3) := by decide +kernel
theorem dX4_goOver_97 : decode cX4_goOver 97 = .ok (.aload_n 0, 1) := by decide +kernel
theorem dX4_goOver_98 : decode cX4_goOver 98 = .ok (.iload_n 1, 1) := by decide +kernel
theorem dX4_goOver_99 : decode cX4_goOver 99 = .ok (.iconst 1, 1) := by decide +kernel
theorem dX4_goOver_100 : decode cX4_goOver 100 = .ok (.invokevirtual 49, 3) := by decide +kernel
theorem dX4_goOver_103 : decode cX4_goOver 103 = .ok (.goto 5, 3) := by decide +kernel
theorem dX4_goOver_106 : decode cX4_goOver 106 = .ok (.iload 9, 2) := by decide +kernel
theorem dX4_goOver_108 : decode cX4_goOver 108 = .ok (.istore 11, 2) := by decide +kernel
theorem dX4_goOver_110 : decode cX4_goOver 110 = .ok (.iload 11, 2) := by decide +kernel
theorem dX4_goOver_112 : decode cX4_goOver 112 = .ok (.ifCond .eq 20, 3) := by decide +kernel
theorem dX4_goOver_115 : decode cX4_goOver 115 = .ok (.iload 4, 2) := by decide +kernel
theorem dX4_goOver_117 : decode cX4_goOver 117 = .ok (.iload 11, 2) := by decide +kernel
theorem dX4_goOver_119 : decode cX4_goOver 119 = .ok (.iload 5, 2) := by decide +kernel
theorem dX4_goOver_121 : decode cX4_goOver 121 = .ok (.imul, 1) := by decide +kernel
theorem dX4_goOver_122 : decode cX4_goOver 122 = .ok (.iadd, 1) := by decide +kernel
theorem dX4_goOver_123 : decode cX4_goOver 123 = .ok (.istore 4, 2) := by decide +kernel
theorem dX4_goOver_125 : decode cX4_goOver 125 = .ok (.iload 5, 2) := by decide +kernel
theorem dX4_goOver_127 : decode cX4_goOver 127 = .ok (.bipush 10, 2) := by decide +kernel
theorem dX4_goOver_129 : decode cX4_goOver 129 = .ok (.imul, 1) := by decide +kernel
theorem dX4_goOver_130 : decode cX4_goOver 130 = .ok (.istore 5, 2) := by decide +kernel
theorem dX4_goOver_132 : decode cX4_goOver 132 = .ok (.iload 9, 2) := by decide +kernel
theorem dX4_goOver_134 : decode cX4_goOver 134 = .ok (.istore 6, 2) := by decide +kernel
theorem dX4_goOver_136 : decode cX4_goOver 136 = .ok (.iinc 8 1, 3) := by decide +kernel
theorem dX4_goOver_139 : decode cX4_goOver 139 = .ok (.goto (-117), 3) := by decide +kernel
theorem dX4_goOver_142 : decode cX4_goOver 142 = .ok (.iload 4, 2) := by decide +kernel
theorem dX4_goOver_144 : decode cX4_goOver 144 = .ok (.ireturn, 1) := by decide +kernel
theorem dX4_walk_0 : decode cX4_walk 0 = .ok (.iload_n 1, 1) := by decide +kernel
theorem dX4_walk_1 : decode cX4_walk 1 = .ok (.istore_n 3, 1) := by decide +kernel
theorem dX4_walk_2 : decode cX4_walk 2 = .ok (.iconst 0, 1) := by decide +kernel
theorem dX4_walk_3 : decode cX4_walk 3 = .ok (.istore 4, 2) := by decide +kernel
theorem dX4_walk_5 : decode cX4_walk 5 = .ok (.iload 4, 2) := by decide +kernel
theorem dX4_walk_7 : decode cX4_walk 7 = .ok (.iload_n 2, 1) := by decide +kernel
theorem dX4_walk_8 : decode cX4_walk 8 = .ok (.if_icmp .ge 22, 3) := by decide +kernel
theorem dX4_walk_11 : decode cX4_walk 11 = .ok (.aload_n 0, 1) := by decide +kernel
theorem dX4_walk_12 : decode cX4_walk 12 = .ok (.aload_n 0, 1) := by decide +kernel
theorem dX4_walk_13 : decode cX4_walk 13 = .ok (.getfield 15, 3) := by decide +kernel
theorem dX4_walk_16 : decode cX4_walk 16 = .ok (.iload 4, 2) := by decide +kernel
theorem dX4_walk_18 : decode cX4_walk 18 = .ok (.iaload, 1) := by decide +kernel
theorem dX4_walk_19 : decode cX4_walk 19 = .ok (.iload_n 3, 1) := by decide +kernel
theorem dX4_walk_20 : decode cX4_walk 20 = .ok (.invokevirtual 59, 3) := by decide +kernel
theorem dX4_walk_23 : decode cX4_walk 23 = .ok (.istore_n 3, 1) := by decide +kernel
theorem dX4_walk_24 : decode cX4_walk 24 = .ok (.iinc 4 1, 3) := by decide +kernel
theorem dX4_walk_27 : decode cX4_walk 27 = .ok (.goto (-22), 3) := by decide +kernel
theorem dX4_walk_30 : decode cX4_walk 30 = .ok (.iload_n 3, 1) := by decide +kernel
theorem dX4_walk_31 : decode cX4_walk 31 = .ok (.ireturn, 1) := by decide +kernel
theorem dX4_walkWith_0 : decode cX4_walkWith 0 = .ok (.iload_n 1, 1) := by decide +kernel
theorem dX4_walkWith_1 : decode cX4_walkWith 1 = .ok (.istore_n 3, 1) := by decide +kernel
theorem dX4_walkWith_2 : decode cX4_walkWith 2 = .ok (.iconst 0, 1) := by decide +kernel
theorem dX4_walkWith_3 : decode cX4_walkWith 3 = .ok (.istore 4, 2) := by decide +kernel
theorem dX4_walkWith_5 : decode cX4_walkWith 5 = .ok (.iload 4, 2) := by decide +kernel
theorem dX4_walkWith_7 : decode cX4_walkWith 7 = .ok (.aload_n 0, 1) := by decide +kernel
theorem dX4_walkWith_8 : decode cX4_walkWith 8 = .ok (.getfield 41, 3) := by decide +kernel
theorem dX4_walkWith_11 : decode cX4_walkWith 11 = .ok (.if_icmp .ge 36, 3) := by decide +kernel
theorem dX4_walkWith_14 : decode cX4_walkWith 14 = .ok (.iload_n 2, 1) := by decide +kernel
theorem dX4_walkWith_15 : decode cX4_walkWith 15 = .ok (.iconst 1, 1) := by decide +kernel
theorem dX4_walkWith_16 : decode cX4_walkWith 16 = .ok (.aload_n 0, 1) := by decide +kernel
theorem dX4_walkWith_17 : decode cX4_walkWith 17 = .ok (.getfield 15, 3) := by decide +kernel
theorem dX4_walkWith_20 : decode cX4_walkWith 20 = .ok (.iload 4, 2) := by decide +kernel
theorem dX4_walkWith_22 : decode cX4_walkWith 22 = .ok (.iaload, 1) := by decide +kernel
theorem dX4_walkWith_23 : decode cX4_walkWith 23 = .ok (.ishl, 1) := by decide +kernel
theorem dX4_walkWith_24 : decode cX4_walkWith 24 = .ok (.iand, 1) := by decide +kernel
theorem dX4_walkWith_25 : decode cX4_walkWith 25 = .ok (.ifCond .eq 16, 3) := by decide +kernel
theorem dX4_walkWith_28 : decode cX4_walkWith 28 = .ok (.aload_n 0, 1) := by decide +kernel
theorem dX4_walkWith_29 : decode cX4_walkWith 29 = .ok (.aload_n 0, 1) := by decide +kernel
theorem dX4_walkWith_30 : decode cX4_walkWith 30 = .ok (.getfield 15, 3) := by decide +kernel
theorem dX4_walkWith_33 : decode cX4_walkWith 33 = .ok (.iload 4, 2) := by decide +kernel
theorem dX4_walkWith_35 : decode cX4_walkWith 35 = .ok (.iaload, 1) := by decide +kernel
theorem dX4_walkWith_36 : decode cX4_walkWith 36 = .ok (.iload_n 3, 1) := by decide +kernel
theorem dX4_walkWith_37 : decode cX4_walkWith 37 = .ok (.invokevirtual 59, 3) := by decide +kernel
theorem dX4_walkWith_40 : decode cX4_walkWith 40 = .ok (.istore_n 3, 1) := by decide +kernel
theorem dX4_walkWith_41 : decode cX4_walkWith 41 = .ok (.iinc 4 1, 3) := by decide +kernel
theorem dX4_walkWith_44 : decode cX4_walkWith 44 = .ok (.goto (-39), 3) := by decide +kernel
theorem dX4_walkWith_47 : decode cX4_walkWith 47 = .ok (.iload_n 3, 1) := by decide +kernel
theorem dX4_walkWith_48 : decode cX4_walkWith 48 = .ok (.ireturn, 1) := by decide +kernel
theorem dX4_makeOf_0 : decode cX4_makeOf 0 = .ok (.aload_n 0, 1) := by decide +kernel
theorem dX4_makeOf_1 : decode cX4_makeOf 1 = .ok (.aload_n 0, 1) := by decide +kernel
theorem dX4_makeOf_2 : decode cX4_makeOf 2 = .ok (.getfield 24, 3) := by decide +kernel
theorem dX4_makeOf_5 : decode cX4_makeOf 5 = .ok (.iload_n 1, 1) := by decide +kernel
theorem dX4_makeOf_6 : decode cX4_makeOf 6 = .ok (.iload_n 2, 1) := by decide +kernel
theorem dX4_makeOf_7 : decode cX4_makeOf 7 = .ok (.invokevirtual 62, 3) := by decide +kernel
theorem dX4_makeOf_10 : decode cX4_makeOf 10 = .ok (.aload_n 0, 1) := by decide +kernel
theorem dX4_makeOf_11 : decode cX4_makeOf 11 = .ok (.getfield 41, 3) := by decide +kernel
theorem dX4_makeOf_14 : decode cX4_makeOf 14 = .ok (.invokevirtual 67, 3) := by decide +kernel
theorem dX4_makeOf_17 : decode cX4_makeOf 17 = .ok (.ireturn, 1) := by decide +kernel
theorem dX4_unlikeWords_0 : decode cX4_unlikeWords 0 = .ok (.iconst 0, 1) := by decide +kernel
theorem dX4_unlikeWords_1 : decode cX4_unlikeWords 1 = .ok (.istore_n 2, 1) := by decide +kernel
theorem dX4_unlikeWords_2 : decode cX4_unlikeWords 2 = .ok (.iconst 0, 1) := by decide +kernel
theorem dX4_unlikeWords_3 : decode cX4_unlikeWords 3 = .ok (.istore_n 3, 1) := by decide +kernel
theorem dX4_unlikeWords_4 : decode cX4_unlikeWords 4 = .ok (.iload_n 3, 1) := by decide +kernel
theorem dX4_unlikeWords_5 : decode cX4_unlikeWords 5 = .ok (.aload_n 0, 1) := by decide +kernel
theorem dX4_unlikeWords_6 : decode cX4_unlikeWords 6 = .ok (.getfield 24, 3) := by decide +kernel
theorem dX4_unlikeWords_9 : decode cX4_unlikeWords 9 = .ok (.getfield 70, 3) := by decide +kernel
theorem dX4_unlikeWords_12 : decode cX4_unlikeWords 12 = .ok (.if_icmp .ge 68, 3) := by decide +kernel
theorem dX4_unlikeWords_15 : decode cX4_unlikeWords 15 = .ok (.iconst 0, 1) := by decide +kernel
theorem dX4_unlikeWords_16 : decode cX4_unlikeWords 16 = .ok (.istore 4, 2) := by decide +kernel
theorem dX4_unlikeWords_18 : decode cX4_unlikeWords 18 = .ok (.iload 4, 2) := by decide +kernel
theorem dX4_unlikeWords_20 : decode cX4_unlikeWords 20 = .ok (.aload_n 0, 1) := by decide +kernel
theorem dX4_unlikeWords_21 : decode cX4_unlikeWords 21 = .ok (.getfield 24, 3) := by decide +kernel
theorem dX4_unlikeWords_24 : decode cX4_unlikeWords 24 = .ok (.getfield 73, 3) := by decide +kernel
theorem dX4_unlikeWords_27 : decode cX4_unlikeWords 27 = .ok (.if_icmp .ge 47, 3) := by decide +kernel
theorem dX4_unlikeWords_30 : decode cX4_unlikeWords 30 = .ok (.aload_n 0, 1) := by decide +kernel
theorem dX4_unlikeWords_31 : decode cX4_unlikeWords 31 = .ok (.aload_n 0, 1) := by decide +kernel
theorem dX4_unlikeWords_32 : decode cX4_unlikeWords 32 = .ok (.getfield 24, 3) := by decide +kernel
theorem dX4_unlikeWords_35 : decode cX4_unlikeWords 35 = .ok (.iload_n 3, 1) := by decide +kernel
theorem dX4_unlikeWords_36 : decode cX4_unlikeWords 36 = .ok (.iload 4, 2) := by decide +kernel
theorem dX4_unlikeWords_38 : decode cX4_unlikeWords 38 = .ok (.invokevirtual 62, 3) := by decide +kernel
theorem dX4_unlikeWords_41 : decode cX4_unlikeWords 41 = .ok (.iload_n 1, 1) := by decide +kernel
theorem dX4_unlikeWords_42 : decode cX4_unlikeWords 42 = .ok (.invokevirtual 76, 3) := by decide +kernel
theorem dX4_unlikeWords_45 : decode cX4_unlikeWords 45 = .ok (.istore 5, 2) := by decide +kernel
theorem dX4_unlikeWords_47 : decode cX4_unlikeWords 47 = .ok (.aload_n 0, 1) := by decide +kernel
theorem dX4_unlikeWords_48 : decode cX4_unlikeWords 48 = .ok (.iload 5, 2) := by decide +kernel
theorem dX4_unlikeWords_50 : decode cX4_unlikeWords 50 = .ok (.iload_n 2, 1) := by decide +kernel
theorem dX4_unlikeWords_51 : decode cX4_unlikeWords 51 = .ok (.invokevirtual 79, 3) := by decide +kernel
theorem dX4_unlikeWords_54 : decode cX4_unlikeWords 54 = .ok (.ifCond .ne 14, 3) := by decide +kernel
theorem dX4_unlikeWords_57 : decode cX4_unlikeWords 57 = .ok (.aload_n 0, 1) := by decide +kernel
theorem dX4_unlikeWords_58 : decode cX4_unlikeWords 58 = .ok (.getfield 21, 3) := by decide +kernel
theorem dX4_unlikeWords_61 : decode cX4_unlikeWords 61 = .ok (.iload_n 2, 1) := by decide +kernel
theorem dX4_unlikeWords_62 : decode cX4_unlikeWords 62 = .ok (.iload 5, 2) := by decide +kernel
theorem dX4_unlikeWords_64 : decode cX4_unlikeWords 64 = .ok (.iastore, 1) := by decide +kernel
theorem dX4_unlikeWords_65 : decode cX4_unlikeWords 65 = .ok (.iinc 2 1, 3) := by decide +kernel
theorem dX4_unlikeWords_68 : decode cX4_unlikeWords 68 = .ok (.iinc 4 1, 3) := by decide +kernel
theorem dX4_unlikeWords_71 : decode cX4_unlikeWords 71 = .ok (.goto (-53), 3) := by decide +kernel
theorem dX4_unlikeWords_74 : decode cX4_unlikeWords 74 = .ok (.iinc 3 1, 3) := by decide +kernel
theorem dX4_unlikeWords_77 : decode cX4_unlikeWords 77 = .ok (.goto (-73), 3) := by decide +kernel
theorem dX4_unlikeWords_80 : decode cX4_unlikeWords 80 = .ok (.iload_n 2, 1) := by decide +kernel
theorem dX4_unlikeWords_81 : decode cX4_unlikeWords 81 = .ok (.ireturn, 1) := by decide +kernel
theorem dX4_isAmongUnlike_0 : decode cX4_isAmongUnlike 0 = .ok (.iconst 0, 1) := by decide +kernel
theorem dX4_isAmongUnlike_1 : decode cX4_isAmongUnlike 1 = .ok (.istore_n 3, 1) := by decide +kernel
theorem dX4_isAmongUnlike_2 : decode cX4_isAmongUnlike 2 = .ok (.iload_n 3, 1) := by decide +kernel
theorem dX4_isAmongUnlike_3 : decode cX4_isAmongUnlike 3 = .ok (.iload_n 2, 1) := by decide +kernel
theorem dX4_isAmongUnlike_4 : decode cX4_isAmongUnlike 4 = .ok (.if_icmp .ge 21, 3) := by decide +kernel
theorem dX4_isAmongUnlike_7 : decode cX4_isAmongUnlike 7 = .ok (.aload_n 0, 1) := by decide +kernel
theorem dX4_isAmongUnlike_8 : decode cX4_isAmongUnlike 8 = .ok (.getfield 21, 3) := by decide +kernel
theorem dX4_isAmongUnlike_11 : decode cX4_isAmongUnlike 11 = .ok (.iload_n 3, 1) := by decide +kernel
theorem dX4_isAmongUnlike_12 : decode cX4_isAmongUnlike 12 = .ok (.iaload, 1) := by decide +kernel
theorem dX4_isAmongUnlike_13 : decode cX4_isAmongUnlike 13 = .ok (.iload_n 1, 1) := by decide +kernel
theorem dX4_isAmongUnlike_14 : decode cX4_isAmongUnlike 14 = .ok (.if_icmp .ne 5, 3) := by decide +kernel
theorem dX4_isAmongUnlike_17 : decode cX4_isAmongUnlike 17 = .ok (.iconst 1, 1) := by decide +kernel
theorem dX4_isAmongUnlike_18 : decode cX4_isAmongUnlike 18 = .ok (.ireturn, 1) := by decide +kernel
theorem dX4_isAmongUnlike_19 : decode cX4_isAmongUnlike 19 = .ok (.iinc 3 1, 3) := by decide +kernel
theorem dX4_isAmongUnlike_22 : decode cX4_isAmongUnlike 22 = .ok (.goto (-20), 3) := by decide +kernel
theorem dX4_isAmongUnlike_25 : decode cX4_isAmongUnlike 25 = .ok (.iconst 0, 1) := by decide +kernel
theorem dX4_isAmongUnlike_26 : decode cX4_isAmongUnlike 26 = .ok (.ireturn, 1) := by decide +kernel
theorem dX4_activeChanges_0 : decode cX4_activeChanges 0 = .ok (.iconst 0, 1) := by decide +kernel
theorem dX4_activeChanges_1 : decode cX4_activeChanges 1 = .ok (.istore_n 1, 1) := by decide +kernel
theorem dX4_activeChanges_2 : decode cX4_activeChanges 2 = .ok (.iconst 0, 1) := by decide +kernel
theorem dX4_activeChanges_3 : decode cX4_activeChanges 3 = .ok (.istore_n 2, 1) := by decide +kernel
theorem dX4_activeChanges_4 : decode cX4_activeChanges 4 = .ok (.iload_n 2, 1) := by decide +kernel
theorem dX4_activeChanges_5 : decode cX4_activeChanges 5 = .ok (.aload_n 0, 1) := by decide +kernel
theorem dX4_activeChanges_6 : decode cX4_activeChanges 6 = .ok (.getfield 24, 3) := by decide +kernel
theorem dX4_activeChanges_9 : decode cX4_activeChanges 9 = .ok (.getfield 70, 3) := by decide +kernel
theorem dX4_activeChanges_12 : decode cX4_activeChanges 12 = .ok (.if_icmp .ge 44, 3) := by decide +kernel
theorem dX4_activeChanges_15 : decode cX4_activeChanges 15 = .ok (.iconst 0, 1) := by decide +kernel
theorem dX4_activeChanges_16 : decode cX4_activeChanges 16 = .ok (.istore_n 3, 1) := by decide +kernel
theorem dX4_activeChanges_17 : decode cX4_activeChanges 17 = .ok (.iload_n 3, 1) := by decide +kernel
theorem dX4_activeChanges_18 : decode cX4_activeChanges 18 = .ok (.aload_n 0, 1) := by decide +kernel
theorem dX4_activeChanges_19 : decode cX4_activeChanges 19 = .ok (.getfield 24, 3) := by decide +kernel
theorem dX4_activeChanges_22 : decode cX4_activeChanges 22 = .ok (.getfield 73, 3) := by decide +kernel
theorem dX4_activeChanges_25 : decode cX4_activeChanges 25 = .ok (.if_icmp .ge 25, 3) := by decide +kernel
theorem dX4_activeChanges_28 : decode cX4_activeChanges 28 = .ok (.iload_n 1, 1) := by decide +kernel
theorem dX4_activeChanges_29 : decode cX4_activeChanges 29 = .ok (.aload_n 0, 1) := by decide +kernel
theorem dX4_activeChanges_30 : decode cX4_activeChanges 30 = .ok (.aload_n 0, 1) := by decide +kernel
theorem dX4_activeChanges_31 : decode cX4_activeChanges 31 = .ok (.getfield 24, 3) := by decide +kernel
theorem dX4_activeChanges_34 : decode cX4_activeChanges 34 = .ok (.iload_n 2, 1) := by decide +kernel
theorem dX4_activeChanges_35 : decode cX4_activeChanges 35 = .ok (.iload_n 3, 1) := by decide +kernel
theorem dX4_activeChanges_36 : decode cX4_activeChanges 36 = .ok (.invokevirtual 62, 3) := by decide +kernel
theorem dX4_activeChanges_39 : decode cX4_activeChanges 39 = .ok (.invokevirtual 82, 3) := by decide +kernel
theorem dX4_activeChanges_42 : decode cX4_activeChanges 42 = .ok (.ior, 1) := by decide +kernel
theorem dX4_activeChanges_43 : decode cX4_activeChanges 43 = .ok (.istore_n 1, 1) := by decide +kernel
theorem dX4_activeChanges_44 : decode cX4_activeChanges 44 = .ok (.iinc 3 1, 3) := by decide +kernel
theorem dX4_activeChanges_47 : decode cX4_activeChanges 47 = .ok (.goto (-30), 3) := by decide +kernel
theorem dX4_activeChanges_50 : decode cX4_activeChanges 50 = .ok (.iinc 2 1, 3) := by decide +kernel
theorem dX4_activeChanges_53 : decode cX4_activeChanges 53 = .ok (.goto (-49), 3) := by decide +kernel
theorem dX4_activeChanges_56 : decode cX4_activeChanges 56 = .ok (.iload_n 1, 1) := by decide +kernel
theorem dX4_activeChanges_57 : decode cX4_activeChanges 57 = .ok (.ireturn, 1) := by decide +kernel
theorem dX4_activeOver_0 : decode cX4_activeOver 0 = .ok (.iconst 0, 1) := by decide +kernel
theorem dX4_activeOver_1 : decode cX4_activeOver 1 = .ok (.istore_n 2, 1) := by decide +kernel
theorem dX4_activeOver_2 : decode cX4_activeOver 2 = .ok (.iload_n 1, 1) := by decide +kernel
theorem dX4_activeOver_3 : decode cX4_activeOver 3 = .ok (.istore_n 3, 1) := by decide +kernel
theorem dX4_activeOver_4 : decode cX4_activeOver 4 = .ok (.iconst 0, 1) := by decide +kernel
theorem dX4_activeOver_5 : decode cX4_activeOver 5 = .ok (.istore 4, 2) := by decide +kernel
theorem dX4_activeOver_7 : decode cX4_activeOver 7 = .ok (.iload 4, 2) := by decide +kernel
theorem dX4_activeOver_9 : decode cX4_activeOver 9 = .ok (.aload_n 0, 1) := by decide +kernel
theorem dX4_activeOver_10 : decode cX4_activeOver 10 = .ok (.getfield 41, 3) := by decide +kernel
theorem dX4_activeOver_13 : decode cX4_activeOver 13 = .ok (.if_icmp .ge 44, 3) := by decide +kernel
theorem dX4_activeOver_16 : decode cX4_activeOver 16 = .ok (.aload_n 0, 1) := by decide +kernel
theorem dX4_activeOver_17 : decode cX4_activeOver 17 = .ok (.aload_n 0, 1) := by decide +kernel
theorem dX4_activeOver_18 : decode cX4_activeOver 18 = .ok (.getfield 15, 3) := by decide +kernel
theorem dX4_activeOver_21 : decode cX4_activeOver 21 = .ok (.iload 4, 2) := by decide +kernel
theorem dX4_activeOver_23 : decode cX4_activeOver 23 = .ok (.iaload, 1) := by decide +kernel
theorem dX4_activeOver_24 : decode cX4_activeOver 24 = .ok (.iload_n 3, 1) := by decide +kernel
theorem dX4_activeOver_25 : decode cX4_activeOver 25 = .ok (.invokevirtual 59, 3) := by decide +kernel
theorem dX4_activeOver_28 : decode cX4_activeOver 28 = .ok (.istore 5, 2) := by decide +kernel
theorem dX4_activeOver_30 : decode cX4_activeOver 30 = .ok (.iload 5, 2) := by decide +kernel
theorem dX4_activeOver_32 : decode cX4_activeOver 32 = .ok (.iload_n 3, 1) := by decide +kernel
theorem dX4_activeOver_33 : decode cX4_activeOver 33 = .ok (.if_icmp .eq 15, 3) := by decide +kernel
theorem dX4_activeOver_36 : decode cX4_activeOver 36 = .ok (.iload_n 2, 1) := by decide +kernel
theorem dX4_activeOver_37 : decode cX4_activeOver 37 = .ok (.iconst 1, 1) := by decide +kernel
theorem dX4_activeOver_38 : decode cX4_activeOver 38 = .ok (.aload_n 0, 1) := by decide +kernel
theorem dX4_activeOver_39 : decode cX4_activeOver 39 = .ok (.getfield 15, 3) := by decide +kernel
theorem dX4_activeOver_42 : decode cX4_activeOver 42 = .ok (.iload 4, 2) := by decide +kernel
theorem dX4_activeOver_44 : decode cX4_activeOver 44 = .ok (.iaload, 1) := by decide +kernel
theorem dX4_activeOver_45 : decode cX4_activeOver 45 = .ok (.ishl, 1) := by decide +kernel
theorem dX4_activeOver_46 : decode cX4_activeOver 46 = .ok (.ior, 1) := by decide +kernel
theorem dX4_activeOver_47 : decode cX4_activeOver 47 = .ok (.istore_n 2, 1) := by decide +kernel
theorem dX4_activeOver_48 : decode cX4_activeOver 48 = .ok (.iload 5, 2) := by decide +kernel
theorem dX4_activeOver_50 : decode cX4_activeOver 50 = .ok (.istore_n 3, 1) := by decide +kernel
theorem dX4_activeOver_51 : decode cX4_activeOver 51 = .ok (.iinc 4 1, 3) := by decide +kernel
theorem dX4_activeOver_54 : decode cX4_activeOver 54 = .ok (.goto (-47), 3) := by decide +kernel
theorem dX4_activeOver_57 : decode cX4_activeOver 57 = .ok (.iload_n 2, 1) := by decide +kernel
theorem dX4_activeOver_58 : decode cX4_activeOver 58 = .ok (.ireturn, 1) := by decide +kernel
theorem dX4_exceptions_0 : decode cX4_exceptions 0 = .ok (.iconst 0, 1) := by decide +kernel
theorem dX4_exceptions_1 : decode cX4_exceptions 1 = .ok (.istore_n 1, 1) := by decide +kernel
theorem dX4_exceptions_2 : decode cX4_exceptions 2 = .ok (.iconst 0, 1) := by decide +kernel
theorem dX4_exceptions_3 : decode cX4_exceptions 3 = .ok (.istore_n 2, 1) := by decide +kernel
theorem dX4_exceptions_4 : decode cX4_exceptions 4 = .ok (.iload_n 2, 1) := by decide +kernel
theorem dX4_exceptions_5 : decode cX4_exceptions 5 = .ok (.aload_n 0, 1) := by decide +kernel
theorem dX4_exceptions_6 : decode cX4_exceptions 6 = .ok (.getfield 24, 3) := by decide +kernel
theorem dX4_exceptions_9 : decode cX4_exceptions 9 = .ok (.getfield 70, 3) := by decide +kernel
theorem dX4_exceptions_12 : decode cX4_exceptions 12 = .ok (.if_icmp .ge 57, 3) := by decide +kernel
theorem dX4_exceptions_15 : decode cX4_exceptions 15 = .ok (.iconst 0, 1) := by decide +kernel
theorem dX4_exceptions_16 : decode cX4_exceptions 16 = .ok (.istore_n 3, 1) := by decide +kernel
theorem dX4_exceptions_17 : decode cX4_exceptions 17 = .ok (.iload_n 3, 1) := by decide +kernel
theorem dX4_exceptions_18 : decode cX4_exceptions 18 = .ok (.aload_n 0, 1) := by decide +kernel
theorem dX4_exceptions_19 : decode cX4_exceptions 19 = .ok (.getfield 24, 3) := by decide +kernel
theorem dX4_exceptions_22 : decode cX4_exceptions 22 = .ok (.getfield 73, 3) := by decide +kernel
theorem dX4_exceptions_25 : decode cX4_exceptions 25 = .ok (.if_icmp .ge 38, 3) := by decide +kernel
theorem dX4_exceptions_28 : decode cX4_exceptions 28 = .ok (.aload_n 0, 1) := by decide +kernel
theorem dX4_exceptions_29 : decode cX4_exceptions 29 = .ok (.iload_n 2, 1) := by decide +kernel
theorem dX4_exceptions_30 : decode cX4_exceptions 30 = .ok (.iload_n 3, 1) := by decide +kernel
theorem dX4_exceptions_31 : decode cX4_exceptions 31 = .ok (.invokevirtual 86, 3) := by decide +kernel
theorem dX4_exceptions_34 : decode cX4_exceptions 34 = .ok (.istore 4, 2) := by decide +kernel
theorem dX4_exceptions_36 : decode cX4_exceptions 36 = .ok (.iload 4, 2) := by decide +kernel
theorem dX4_exceptions_38 : decode cX4_exceptions 38 = .ok (.bipush (-9), 2) := by decide +kernel
theorem dX4_exceptions_40 : decode cX4_exceptions 40 = .ok (.if_icmp .eq 17, 3) := by decide +kernel
theorem dX4_exceptions_43 : decode cX4_exceptions 43 = .ok (.iload 4, 2) := by decide +kernel
theorem dX4_exceptions_45 : decode cX4_exceptions 45 = .ok (.aload_n 0, 1) := by decide +kernel
theorem dX4_exceptions_46 : decode cX4_exceptions 46 = .ok (.iload_n 2, 1) := by decide +kernel
theorem dX4_exceptions_47 : decode cX4_exceptions 47 = .ok (.iload_n 3, 1) := by decide +kernel
theorem dX4_exceptions_48 : decode cX4_exceptions 48 = .ok (.invokevirtual 89, 3) := by decide +kernel
theorem dX4_exceptions_51 : decode cX4_exceptions 51 = .ok (.if_icmp .eq 6, 3) := by decide +kernel
theorem dX4_exceptions_54 : decode cX4_exceptions 54 = .ok (.iinc 1 1, 3) := by decide +kernel
theorem dX4_exceptions_57 : decode cX4_exceptions 57 = .ok (.iinc 3 1, 3) := by decide +kernel
theorem dX4_exceptions_60 : decode cX4_exceptions 60 = .ok (.goto (-43), 3) := by decide +kernel
theorem dX4_exceptions_63 : decode cX4_exceptions 63 = .ok (.iinc 2 1, 3) := by decide +kernel
theorem dX4_exceptions_66 : decode cX4_exceptions 66 = .ok (.goto (-62), 3) := by decide +kernel
theorem dX4_exceptions_69 : decode cX4_exceptions 69 = .ok (.iload_n 1, 1) := by decide +kernel
theorem dX4_exceptions_70 : decode cX4_exceptions 70 = .ok (.ireturn, 1) := by decide +kernel
theorem dX4_doCross_0 : decode cX4_doCross 0 = .ok (.iconst 0, 1) := by decide +kernel
theorem dX4_doCross_1 : decode cX4_doCross 1 = .ok (.istore_n 3, 1) := by decide +kernel
theorem dX4_doCross_2 : decode cX4_doCross 2 = .ok (.iload_n 3, 1) := by decide +kernel
theorem dX4_doCross_3 : decode cX4_doCross 3 = .ok (.aload_n 0, 1) := by decide +kernel
theorem dX4_doCross_4 : decode cX4_doCross 4 = .ok (.getfield 24, 3) := by decide +kernel
theorem dX4_doCross_7 : decode cX4_doCross 7 = .ok (.getfield 70, 3) := by decide +kernel
theorem dX4_doCross_10 : decode cX4_doCross 10 = .ok (.if_icmp .ge 71, 3) := by decide +kernel
theorem dX4_doCross_13 : decode cX4_doCross 13 = .ok (.iconst 0, 1) := by decide +kernel
theorem dX4_doCross_14 : decode cX4_doCross 14 = .ok (.istore 4, 2) := by decide +kernel
theorem dX4_doCross_16 : decode cX4_doCross 16 = .ok (.iload 4, 2) := by decide +kernel
theorem dX4_doCross_18 : decode cX4_doCross 18 = .ok (.aload_n 0, 1) := by decide +kernel
theorem dX4_doCross_19 : decode cX4_doCross 19 = .ok (.getfield 24, 3) := by decide +kernel
theorem dX4_doCross_22 : decode cX4_doCross 22 = .ok (.getfield 73, 3) := by decide +kernel
theorem dX4_doCross_25 : decode cX4_doCross 25 = .ok (.if_icmp .ge 50, 3) := by decide +kernel
theorem dX4_doCross_28 : decode cX4_doCross 28 = .ok (.aload_n 0, 1) := by decide +kernel
theorem dX4_doCross_29 : decode cX4_doCross 29 = .ok (.getfield 24, 3) := by decide +kernel
theorem dX4_doCross_32 : decode cX4_doCross 32 = .ok (.iload_n 3, 1) := by decide +kernel
theorem dX4_doCross_33 : decode cX4_doCross 33 = .ok (.iload 4, 2) := by decide +kernel
theorem dX4_doCross_35 : decode cX4_doCross 35 = .ok (.invokevirtual 62, 3) := by decide +kernel
theorem dX4_doCross_38 : decode cX4_doCross 38 = .ok (.istore 5, 2) := by decide +kernel
theorem dX4_doCross_40 : decode cX4_doCross 40 = .ok (.aload_n 0, 1) := by decide +kernel
theorem dX4_doCross_41 : decode cX4_doCross 41 = .ok (.iload_n 2, 1) := by decide +kernel
theorem dX4_doCross_42 : decode cX4_doCross 42 = .ok (.aload_n 0, 1) := by decide +kernel
theorem dX4_doCross_43 : decode cX4_doCross 43 = .ok (.iload_n 1, 1) := by decide +kernel
theorem dX4_doCross_44 : decode cX4_doCross 44 = .ok (.iload 5, 2) := by decide +kernel
theorem dX4_doCross_46 : decode cX4_doCross 46 = .ok (.invokevirtual 59, 3) := by decide +kernel
theorem dX4_doCross_49 : decode cX4_doCross 49 = .ok (.invokevirtual 59, 3) := by decide +kernel
theorem dX4_doCross_52 : decode cX4_doCross 52 = .ok (.aload_n 0, 1) := by decide +kernel
theorem dX4_doCross_53 : decode cX4_doCross 53 = .ok (.iload_n 1, 1) := by decide +kernel
theorem dX4_doCross_54 : decode cX4_doCross 54 = .ok (.aload_n 0, 1) := by decide +kernel
theorem dX4_doCross_55 : decode cX4_doCross 55 = .ok (.iload_n 2, 1) := by decide +kernel
theorem dX4_doCross_56 : decode cX4_doCross 56 = .ok (.iload 5, 2) := by decide +kernel
theorem dX4_doCross_58 : decode cX4_doCross 58 = .ok (.invokevirtual 59, 3) := by decide +kernel
theorem dX4_doCross_61 : decode cX4_doCross 61 = .ok (.invokevirtual 59, 3) := by decide +kernel
theorem dX4_doCross_64 : decode cX4_doCross 64 = .ok (.if_icmp .eq 5, 3) := by decide +kernel
theorem dX4_doCross_67 : decode cX4_doCross 67 = .ok (.iconst 1, 1) := by decide +kernel
theorem dX4_doCross_68 : decode cX4_doCross 68 = .ok (.ireturn, 1) := by decide +kernel
theorem dX4_doCross_69 : decode cX4_doCross 69 = .ok (.iinc 4 1, 3) := by decide +kernel
theorem dX4_doCross_72 : decode cX4_doCross 72 = .ok (.goto (-56), 3) := by decide +kernel
theorem dX4_doCross_75 : decode cX4_doCross 75 = .ok (.iinc 3 1, 3) := by decide +kernel
theorem dX4_doCross_78 : decode cX4_doCross 78 = .ok (.goto (-76), 3) := by decide +kernel
theorem dX4_doCross_81 : decode cX4_doCross 81 = .ok (.iconst 0, 1) := by decide +kernel
theorem dX4_doCross_82 : decode cX4_doCross 82 = .ok (.ireturn, 1) := by decide +kernel
theorem dX5_isWord_0 : decode cX5_isWord 0 = .ok (.iload_n 0, 1) := by decide +kernel
theorem dX5_isWord_1 : decode cX5_isWord 1 = .ok (.ifCond .lt 9, 3) := by decide +kernel
theorem dX5_isWord_4 : decode cX5_isWord 4 = .ok (.iload_n 0, 1) := by decide +kernel
theorem dX5_isWord_5 : decode cX5_isWord 5 = .ok (.ldc 9, 2) := by decide +kernel
theorem dX5_isWord_7 : decode cX5_isWord 7 = .ok (.if_icmp .le 5, 3) := by decide +kernel
theorem dX5_isWord_10 : decode cX5_isWord 10 = .ok (.iconst 0, 1) := by decide +kernel
theorem dX5_isWord_11 : decode cX5_isWord 11 = .ok (.ireturn, 1) := by decide +kernel
theorem dX5_isWord_12 : decode cX5_isWord 12 = .ok (.iload_n 0, 1) := by decide +kernel
theorem dX5_isWord_13 : decode cX5_isWord 13 = .ok (.istore_n 1, 1) := by decide +kernel
theorem dX5_isWord_14 : decode cX5_isWord 14 = .ok (.iconst 0, 1) := by decide +kernel
theorem dX5_isWord_15 : decode cX5_isWord 15 = .ok (.istore_n 2, 1) := by decide +kernel
theorem dX5_isWord_16 : decode cX5_isWord 16 = .ok (.iload_n 2, 1) := by decide +kernel
theorem dX5_isWord_17 : decode cX5_isWord 17 = .ok (.bipush 6, 2) := by decide +kernel
theorem dX5_isWord_19 : decode cX5_isWord 19 = .ok (.if_icmp .ge 35, 3) := by decide +kernel
theorem dX5_isWord_22 : decode cX5_isWord 22 = .ok (.iload_n 1, 1) := by decide +kernel
theorem dX5_isWord_23 : decode cX5_isWord 23 = .ok (.ifCond .le 31, 3) := by decide +kernel
theorem dX5_isWord_26 : decode cX5_isWord 26 = .ok (.iload_n 1, 1) := by decide +kernel
theorem dX5_isWord_27 : decode cX5_isWord 27 = .ok (.bipush 10, 2) := by decide +kernel
theorem dX5_isWord_29 : decode cX5_isWord 29 = .ok (.irem, 1) := by decide +kernel
theorem dX5_isWord_30 : decode cX5_isWord 30 = .ok (.istore_n 3, 1) := by decide +kernel
theorem dX5_isWord_31 : decode cX5_isWord 31 = .ok (.iload_n 3, 1) := by decide +kernel
theorem dX5_isWord_32 : decode cX5_isWord 32 = .ok (.iconst 1, 1) := by decide +kernel
theorem dX5_isWord_33 : decode cX5_isWord 33 = .ok (.if_icmp .lt 8, 3) := by decide +kernel
theorem dX5_isWord_36 : decode cX5_isWord 36 = .ok (.iload_n 3, 1) := by decide +kernel
theorem dX5_isWord_37 : decode cX5_isWord 37 = .ok (.iconst 5, 1) := by decide +kernel
theorem dX5_isWord_38 : decode cX5_isWord 38 = .ok (.if_icmp .le 5, 3) := by decide +kernel
theorem dX5_isWord_41 : decode cX5_isWord 41 = .ok (.iconst 0, 1) := by decide +kernel
theorem dX5_isWord_42 : decode cX5_isWord 42 = .ok (.ireturn, 1) := by decide +kernel
theorem dX5_isWord_43 : decode cX5_isWord 43 = .ok (.iload_n 1, 1) := by decide +kernel
theorem dX5_isWord_44 : decode cX5_isWord 44 = .ok (.bipush 10, 2) := by decide +kernel
theorem dX5_isWord_46 : decode cX5_isWord 46 = .ok (.idiv, 1) := by decide +kernel
theorem dX5_isWord_47 : decode cX5_isWord 47 = .ok (.istore_n 1, 1) := by decide +kernel
theorem dX5_isWord_48 : decode cX5_isWord 48 = .ok (.iinc 2 1, 3) := by decide +kernel
theorem dX5_isWord_51 : decode cX5_isWord 51 = .ok (.goto (-35), 3) := by decide +kernel
theorem dX5_isWord_54 : decode cX5_isWord 54 = .ok (.iconst 1, 1) := by decide +kernel
theorem dX5_isWord_55 : decode cX5_isWord 55 = .ok (.ireturn, 1) := by decide +kernel
theorem dX5_lengthOf_0 : decode cX5_lengthOf 0 = .ok (.iconst 0, 1) := by decide +kernel
theorem dX5_lengthOf_1 : decode cX5_lengthOf 1 = .ok (.istore_n 1, 1) := by decide +kernel
theorem dX5_lengthOf_2 : decode cX5_lengthOf 2 = .ok (.iload_n 0, 1) := by decide +kernel
theorem dX5_lengthOf_3 : decode cX5_lengthOf 3 = .ok (.istore_n 2, 1) := by decide +kernel
theorem dX5_lengthOf_4 : decode cX5_lengthOf 4 = .ok (.iconst 0, 1) := by decide +kernel
theorem dX5_lengthOf_5 : decode cX5_lengthOf 5 = .ok (.istore_n 3, 1) := by decide +kernel
theorem dX5_lengthOf_6 : decode cX5_lengthOf 6 = .ok (.iload_n 3, 1) := by decide +kernel
theorem dX5_lengthOf_7 : decode cX5_lengthOf 7 = .ok (.bipush 6, 2) := by decide +kernel
theorem dX5_lengthOf_9 : decode cX5_lengthOf 9 = .ok (.if_icmp .ge 21, 3) := by decide +kernel
theorem dX5_lengthOf_12 : decode cX5_lengthOf 12 = .ok (.iload_n 2, 1) := by decide +kernel
theorem dX5_lengthOf_13 : decode cX5_lengthOf 13 = .ok (.ifCond .le 17, 3) := by decide +kernel
theorem dX5_lengthOf_16 : decode cX5_lengthOf 16 = .ok (.iload_n 2, 1) := by decide +kernel
theorem dX5_lengthOf_17 : decode cX5_lengthOf 17 = .ok (.bipush 10, 2) := by decide +kernel
theorem dX5_lengthOf_19 : decode cX5_lengthOf 19 = .ok (.idiv, 1) := by decide +kernel
theorem dX5_lengthOf_20 : decode cX5_lengthOf 20 = .ok (.istore_n 2, 1) := by decide +kernel
theorem dX5_lengthOf_21 : decode cX5_lengthOf 21 = .ok (.iinc 1 1, 3) := by decide +kernel
theorem dX5_lengthOf_24 : decode cX5_lengthOf 24 = .ok (.iinc 3 1, 3) := by decide +kernel
theorem dX5_lengthOf_27 : decode cX5_lengthOf 27 = .ok (.goto (-21), 3) := by decide +kernel
theorem dX5_lengthOf_30 : decode cX5_lengthOf 30 = .ok (.iload_n 1, 1) := by decide +kernel
theorem dX5_lengthOf_31 : decode cX5_lengthOf 31 = .ok (.ireturn, 1) := by decide +kernel
theorem dX5_letterAt_0 : decode cX5_letterAt 0 = .ok (.iload_n 0, 1) := by decide +kernel
theorem dX5_letterAt_1 : decode cX5_letterAt 1 = .ok (.invokestatic 10, 3) := by decide +kernel
