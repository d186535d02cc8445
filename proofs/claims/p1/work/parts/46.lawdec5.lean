theorem dXL_law_977 : decode code 977 = .ok (.aload_n 3, 1) := by decide +kernel
theorem dXL_law_978 : decode code 978 = .ok (.invokestatic 122, 3) := by decide +kernel
theorem dXL_law_981 : decode code 981 = .ok (.istore 5, 2) := by decide +kernel
theorem dXL_law_983 : decode code 983 = .ok (.aload_n 2, 1) := by decide +kernel
theorem dXL_law_984 : decode code 984 = .ok (.aload_n 0, 1) := by decide +kernel
theorem dXL_law_985 : decode code 985 = .ok (.iload 4, 2) := by decide +kernel
theorem dXL_law_987 : decode code 987 = .ok (.iconst 1, 1) := by decide +kernel
theorem dXL_law_988 : decode code 988 = .ok (.iadd, 1) := by decide +kernel
theorem dXL_law_989 : decode code 989 = .ok (.iaload, 1) := by decide +kernel
theorem dXL_law_990 : decode code 990 = .ok (.invokevirtual 124, 3) := by decide +kernel
theorem dXL_law_993 : decode code 993 = .ok (.istore 6, 2) := by decide +kernel
theorem dXL_law_995 : decode code 995 = .ok (.aload_n 2, 1) := by decide +kernel
theorem dXL_law_996 : decode code 996 = .ok (.invokevirtual 76, 3) := by decide +kernel
theorem dXL_law_999 : decode code 999 = .ok (.iload 5, 2) := by decide +kernel
theorem dXL_law_1001 : decode code 1001 = .ok (.if_icmp .eq 5, 3) := by decide +kernel
theorem dXL_law_1004 : decode code 1004 = .ok (.iconst 0, 1) := by decide +kernel
theorem dXL_law_1005 : decode code 1005 = .ok (.ireturn, 1) := by decide +kernel
theorem dXL_law_1006 : decode code 1006 = .ok (.iload 5, 2) := by decide +kernel
theorem dXL_law_1008 : decode code 1008 = .ok (.ifCond .ne 15, 3) := by decide +kernel
theorem dXL_law_1011 : decode code 1011 = .ok (.aload_n 3, 1) := by decide +kernel
theorem dXL_law_1012 : decode code 1012 = .ok (.iconst 0, 1) := by decide +kernel
theorem dXL_law_1013 : decode code 1013 = .ok (.laload, 1) := by decide +kernel
theorem dXL_law_1014 : decode code 1014 = .ok (.iload 6, 2) := by decide +kernel
theorem dXL_law_1016 : decode code 1016 = .ok (.i2l, 1) := by decide +kernel
theorem dXL_law_1017 : decode code 1017 = .ok (.lcmp, 1) := by decide +kernel
theorem dXL_law_1018 : decode code 1018 = .ok (.ifCond .eq 5, 3) := by decide +kernel
theorem dXL_law_1021 : decode code 1021 = .ok (.iconst 0, 1) := by decide +kernel
theorem dXL_law_1022 : decode code 1022 = .ok (.ireturn, 1) := by decide +kernel
theorem dXL_law_1023 : decode code 1023 = .ok (.goto 14, 3) := by decide +kernel
theorem dXL_law_1026 : decode code 1026 = .ok (.aload_n 1, 1) := by decide +kernel
theorem dXL_law_1027 : decode code 1027 = .ok (.invokevirtual 125, 3) := by decide +kernel
theorem dXL_law_1030 : decode code 1030 = .ok (.aload_n 2, 1) := by decide +kernel
theorem dXL_law_1031 : decode code 1031 = .ok (.invokevirtual 128, 3) := by decide +kernel
theorem dXL_law_1034 : decode code 1034 = .ok (.goto 3, 3) := by decide +kernel
theorem dXL_law_1037 : decode code 1037 = .ok (.iinc 4 5, 3) := by decide +kernel
theorem dXL_law_1040 : decode code 1040 = .ok (.goto (-1017), 3) := by decide +kernel
theorem dXL_law_1043 : decode code 1043 = .ok (.iconst 1, 1) := by decide +kernel
theorem dXL_law_1044 : decode code 1044 = .ok (.ireturn, 1) := by decide +kernel
