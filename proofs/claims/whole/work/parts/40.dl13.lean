theorem dL_law_1048 : decode cL_law 1048 = .ok (.iadd, 1) := by decide +kernel
theorem dL_law_1049 : decode cL_law 1049 = .ok (.iaload, 1) := by decide +kernel
theorem dL_law_1050 : decode cL_law 1050 = .ok (.invokevirtual 132, 3) := by decide +kernel
theorem dL_law_1053 : decode cL_law 1053 = .ok (.aload_n 2, 1) := by decide +kernel
theorem dL_law_1054 : decode cL_law 1054 = .ok (.aload_n 0, 1) := by decide +kernel
theorem dL_law_1055 : decode cL_law 1055 = .ok (.iload_n 3, 1) := by decide +kernel
theorem dL_law_1056 : decode cL_law 1056 = .ok (.iconst 1, 1) := by decide +kernel
theorem dL_law_1057 : decode cL_law 1057 = .ok (.iadd, 1) := by decide +kernel
theorem dL_law_1058 : decode cL_law 1058 = .ok (.iaload, 1) := by decide +kernel
theorem dL_law_1059 : decode cL_law 1059 = .ok (.invokevirtual 135, 3) := by decide +kernel
theorem dL_law_1062 : decode cL_law 1062 = .ok (.if_icmp .eq 5, 3) := by decide +kernel
theorem dL_law_1065 : decode cL_law 1065 = .ok (.iconst 0, 1) := by decide +kernel
theorem dL_law_1066 : decode cL_law 1066 = .ok (.ireturn, 1) := by decide +kernel
theorem dL_law_1067 : decode cL_law 1067 = .ok (.iinc 3 5, 3) := by decide +kernel
theorem dL_law_1070 : decode cL_law 1070 = .ok (.goto (-1052), 3) := by decide +kernel
theorem dL_law_1073 : decode cL_law 1073 = .ok (.iconst 1, 1) := by decide +kernel
theorem dL_law_1074 : decode cL_law 1074 = .ok (.ireturn, 1) := by decide +kernel
