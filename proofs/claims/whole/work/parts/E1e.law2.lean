theorem dL_law__961 : decode cL_law_ 961 = .ok (.ifCond .ne 15, 3) := by decide +kernel
theorem eL_law__961 : zD KL_law_ 961 (.ifCond .ne 15) 3 964 := ⟨dL_law__961, rfl⟩
theorem dL_law__964 : decode cL_law_ 964 = .ok (.aload_n 3, 1) := by decide +kernel
theorem eL_law__964 : zD KL_law_ 964 (.aload_n 3) 1 965 := ⟨dL_law__964, rfl⟩
theorem dL_law__965 : decode cL_law_ 965 = .ok (.iconst 0, 1) := by decide +kernel
theorem eL_law__965 : zD KL_law_ 965 (.iconst 0) 1 966 := ⟨dL_law__965, rfl⟩
theorem dL_law__966 : decode cL_law_ 966 = .ok (.laload, 1) := by decide +kernel
theorem eL_law__966 : zD KL_law_ 966 (.laload) 1 967 := ⟨dL_law__966, rfl⟩
theorem dL_law__967 : decode cL_law_ 967 = .ok (.iload 6, 2) := by decide +kernel
theorem eL_law__967 : zD KL_law_ 967 (.iload 6) 2 969 := ⟨dL_law__967, rfl⟩
theorem dL_law__969 : decode cL_law_ 969 = .ok (.i2l, 1) := by decide +kernel
theorem eL_law__969 : zD KL_law_ 969 (.i2l) 1 970 := ⟨dL_law__969, rfl⟩
theorem dL_law__970 : decode cL_law_ 970 = .ok (.lcmp, 1) := by decide +kernel
theorem eL_law__970 : zD KL_law_ 970 (.lcmp) 1 971 := ⟨dL_law__970, rfl⟩
theorem dL_law__971 : decode cL_law_ 971 = .ok (.ifCond .eq 5, 3) := by decide +kernel
theorem eL_law__971 : zD KL_law_ 971 (.ifCond .eq 5) 3 974 := ⟨dL_law__971, rfl⟩
theorem dL_law__974 : decode cL_law_ 974 = .ok (.iconst 0, 1) := by decide +kernel
theorem eL_law__974 : zD KL_law_ 974 (.iconst 0) 1 975 := ⟨dL_law__974, rfl⟩
theorem dL_law__975 : decode cL_law_ 975 = .ok (.ireturn, 1) := by decide +kernel
theorem eL_law__975 : zD KL_law_ 975 (.ireturn) 1 976 := ⟨dL_law__975, rfl⟩
theorem dL_law__976 : decode cL_law_ 976 = .ok (.goto 2376, 3) := by decide +kernel
theorem eL_law__976 : zD KL_law_ 976 (.goto 2376) 3 979 := ⟨dL_law__976, rfl⟩
theorem dL_law__979 : decode cL_law_ 979 = .ok (.aload_n 1, 1) := by decide +kernel
theorem eL_law__979 : zD KL_law_ 979 (.aload_n 1) 1 980 := ⟨dL_law__979, rfl⟩
theorem dL_law__980 : decode cL_law_ 980 = .ok (.aload_n 0, 1) := by decide +kernel
theorem eL_law__980 : zD KL_law_ 980 (.aload_n 0) 1 981 := ⟨dL_law__980, rfl⟩
theorem dL_law__981 : decode cL_law_ 981 = .ok (.iload 4, 2) := by decide +kernel
theorem eL_law__981 : zD KL_law_ 981 (.iload 4) 2 983 := ⟨dL_law__981, rfl⟩
theorem dL_law__983 : decode cL_law_ 983 = .ok (.iconst 1, 1) := by decide +kernel
theorem eL_law__983 : zD KL_law_ 983 (.iconst 1) 1 984 := ⟨dL_law__983, rfl⟩
theorem dL_law__984 : decode cL_law_ 984 = .ok (.iadd, 1) := by decide +kernel
theorem eL_law__984 : zD KL_law_ 984 (.iadd) 1 985 := ⟨dL_law__984, rfl⟩
theorem dL_law__985 : decode cL_law_ 985 = .ok (.iaload, 1) := by decide +kernel
theorem eL_law__985 : zD KL_law_ 985 (.iaload) 1 986 := ⟨dL_law__985, rfl⟩
theorem dL_law__986 : decode cL_law_ 986 = .ok (.aload_n 3, 1) := by decide +kernel
theorem eL_law__986 : zD KL_law_ 986 (.aload_n 3) 1 987 := ⟨dL_law__986, rfl⟩
theorem dL_law__987 : decode cL_law_ 987 = .ok (.invokestatic 204, 3) := by decide +kernel
theorem eL_law__987 : zD KL_law_ 987 (.invokestatic 204) 3 990 := ⟨dL_law__987, rfl⟩
theorem dL_law__990 : decode cL_law_ 990 = .ok (.istore 5, 2) := by decide +kernel
theorem eL_law__990 : zD KL_law_ 990 (.istore 5) 2 992 := ⟨dL_law__990, rfl⟩
theorem dL_law__992 : decode cL_law_ 992 = .ok (.aload_n 2, 1) := by decide +kernel
theorem eL_law__992 : zD KL_law_ 992 (.aload_n 2) 1 993 := ⟨dL_law__992, rfl⟩
theorem dL_law__993 : decode cL_law_ 993 = .ok (.aload_n 0, 1) := by decide +kernel
theorem eL_law__993 : zD KL_law_ 993 (.aload_n 0) 1 994 := ⟨dL_law__993, rfl⟩
theorem dL_law__994 : decode cL_law_ 994 = .ok (.iload 4, 2) := by decide +kernel
theorem eL_law__994 : zD KL_law_ 994 (.iload 4) 2 996 := ⟨dL_law__994, rfl⟩
theorem dL_law__996 : decode cL_law_ 996 = .ok (.iconst 1, 1) := by decide +kernel
theorem eL_law__996 : zD KL_law_ 996 (.iconst 1) 1 997 := ⟨dL_law__996, rfl⟩
theorem dL_law__997 : decode cL_law_ 997 = .ok (.iadd, 1) := by decide +kernel
theorem eL_law__997 : zD KL_law_ 997 (.iadd) 1 998 := ⟨dL_law__997, rfl⟩
theorem dL_law__998 : decode cL_law_ 998 = .ok (.iaload, 1) := by decide +kernel
theorem eL_law__998 : zD KL_law_ 998 (.iaload) 1 999 := ⟨dL_law__998, rfl⟩
theorem dL_law__999 : decode cL_law_ 999 = .ok (.invokevirtual 206, 3) := by decide +kernel
theorem eL_law__999 : zD KL_law_ 999 (.invokevirtual 206) 3 1002 := ⟨dL_law__999, rfl⟩
theorem dL_law__1002 : decode cL_law_ 1002 = .ok (.istore 6, 2) := by decide +kernel
theorem eL_law__1002 : zD KL_law_ 1002 (.istore 6) 2 1004 := ⟨dL_law__1002, rfl⟩
theorem dL_law__1004 : decode cL_law_ 1004 = .ok (.aload_n 2, 1) := by decide +kernel
theorem eL_law__1004 : zD KL_law_ 1004 (.aload_n 2) 1 1005 := ⟨dL_law__1004, rfl⟩
theorem dL_law__1005 : decode cL_law_ 1005 = .ok (.invokevirtual 170, 3) := by decide +kernel
theorem eL_law__1005 : zD KL_law_ 1005 (.invokevirtual 170) 3 1008 := ⟨dL_law__1005, rfl⟩
theorem dL_law__1008 : decode cL_law_ 1008 = .ok (.iload 5, 2) := by decide +kernel
theorem eL_law__1008 : zD KL_law_ 1008 (.iload 5) 2 1010 := ⟨dL_law__1008, rfl⟩
theorem dL_law__1010 : decode cL_law_ 1010 = .ok (.if_icmp .eq 5, 3) := by decide +kernel
theorem eL_law__1010 : zD KL_law_ 1010 (.if_icmp .eq 5) 3 1013 := ⟨dL_law__1010, rfl⟩
theorem dL_law__1013 : decode cL_law_ 1013 = .ok (.iconst 0, 1) := by decide +kernel
theorem eL_law__1013 : zD KL_law_ 1013 (.iconst 0) 1 1014 := ⟨dL_law__1013, rfl⟩
theorem dL_law__1014 : decode cL_law_ 1014 = .ok (.ireturn, 1) := by decide +kernel
theorem eL_law__1014 : zD KL_law_ 1014 (.ireturn) 1 1015 := ⟨dL_law__1014, rfl⟩
theorem dL_law__1015 : decode cL_law_ 1015 = .ok (.iload 5, 2) := by decide +kernel
theorem eL_law__1015 : zD KL_law_ 1015 (.iload 5) 2 1017 := ⟨dL_law__1015, rfl⟩
theorem dL_law__1017 : decode cL_law_ 1017 = .ok (.ifCond .ne 15, 3) := by decide +kernel
theorem eL_law__1017 : zD KL_law_ 1017 (.ifCond .ne 15) 3 1020 := ⟨dL_law__1017, rfl⟩
theorem dL_law__1020 : decode cL_law_ 1020 = .ok (.aload_n 3, 1) := by decide +kernel
theorem eL_law__1020 : zD KL_law_ 1020 (.aload_n 3) 1 1021 := ⟨dL_law__1020, rfl⟩
theorem dL_law__1021 : decode cL_law_ 1021 = .ok (.iconst 0, 1) := by decide +kernel
theorem eL_law__1021 : zD KL_law_ 1021 (.iconst 0) 1 1022 := ⟨dL_law__1021, rfl⟩
theorem dL_law__1022 : decode cL_law_ 1022 = .ok (.laload, 1) := by decide +kernel
theorem eL_law__1022 : zD KL_law_ 1022 (.laload) 1 1023 := ⟨dL_law__1022, rfl⟩
theorem dL_law__1023 : decode cL_law_ 1023 = .ok (.iload 6, 2) := by decide +kernel
theorem eL_law__1023 : zD KL_law_ 1023 (.iload 6) 2 1025 := ⟨dL_law__1023, rfl⟩
theorem dL_law__1025 : decode cL_law_ 1025 = .ok (.i2l, 1) := by decide +kernel
theorem eL_law__1025 : zD KL_law_ 1025 (.i2l) 1 1026 := ⟨dL_law__1025, rfl⟩
theorem dL_law__1026 : decode cL_law_ 1026 = .ok (.lcmp, 1) := by decide +kernel
theorem eL_law__1026 : zD KL_law_ 1026 (.lcmp) 1 1027 := ⟨dL_law__1026, rfl⟩
theorem dL_law__1027 : decode cL_law_ 1027 = .ok (.ifCond .eq 5, 3) := by decide +kernel
theorem eL_law__1027 : zD KL_law_ 1027 (.ifCond .eq 5) 3 1030 := ⟨dL_law__1027, rfl⟩
theorem dL_law__1030 : decode cL_law_ 1030 = .ok (.iconst 0, 1) := by decide +kernel
theorem eL_law__1030 : zD KL_law_ 1030 (.iconst 0) 1 1031 := ⟨dL_law__1030, rfl⟩
theorem dL_law__1031 : decode cL_law_ 1031 = .ok (.ireturn, 1) := by decide +kernel
theorem eL_law__1031 : zD KL_law_ 1031 (.ireturn) 1 1032 := ⟨dL_law__1031, rfl⟩
theorem dL_law__1032 : decode cL_law_ 1032 = .ok (.goto 2320, 3) := by decide +kernel
theorem eL_law__1032 : zD KL_law_ 1032 (.goto 2320) 3 1035 := ⟨dL_law__1032, rfl⟩
theorem dL_law__1035 : decode cL_law_ 1035 = .ok (.aload_n 1, 1) := by decide +kernel
theorem eL_law__1035 : zD KL_law_ 1035 (.aload_n 1) 1 1036 := ⟨dL_law__1035, rfl⟩
theorem dL_law__1036 : decode cL_law_ 1036 = .ok (.aload_n 0, 1) := by decide +kernel
theorem eL_law__1036 : zD KL_law_ 1036 (.aload_n 0) 1 1037 := ⟨dL_law__1036, rfl⟩
theorem dL_law__1037 : decode cL_law_ 1037 = .ok (.iload 4, 2) := by decide +kernel
theorem eL_law__1037 : zD KL_law_ 1037 (.iload 4) 2 1039 := ⟨dL_law__1037, rfl⟩
theorem dL_law__1039 : decode cL_law_ 1039 = .ok (.iconst 1, 1) := by decide +kernel
theorem eL_law__1039 : zD KL_law_ 1039 (.iconst 1) 1 1040 := ⟨dL_law__1039, rfl⟩
theorem dL_law__1040 : decode cL_law_ 1040 = .ok (.iadd, 1) := by decide +kernel
theorem eL_law__1040 : zD KL_law_ 1040 (.iadd) 1 1041 := ⟨dL_law__1040, rfl⟩
theorem dL_law__1041 : decode cL_law_ 1041 = .ok (.iaload, 1) := by decide +kernel
theorem eL_law__1041 : zD KL_law_ 1041 (.iaload) 1 1042 := ⟨dL_law__1041, rfl⟩
theorem dL_law__1042 : decode cL_law_ 1042 = .ok (.aload_n 0, 1) := by decide +kernel
theorem eL_law__1042 : zD KL_law_ 1042 (.aload_n 0) 1 1043 := ⟨dL_law__1042, rfl⟩
theorem dL_law__1043 : decode cL_law_ 1043 = .ok (.iload 4, 2) := by decide +kernel
theorem eL_law__1043 : zD KL_law_ 1043 (.iload 4) 2 1045 := ⟨dL_law__1043, rfl⟩
theorem dL_law__1045 : decode cL_law_ 1045 = .ok (.iconst 2, 1) := by decide +kernel
theorem eL_law__1045 : zD KL_law_ 1045 (.iconst 2) 1 1046 := ⟨dL_law__1045, rfl⟩
theorem dL_law__1046 : decode cL_law_ 1046 = .ok (.iadd, 1) := by decide +kernel
theorem eL_law__1046 : zD KL_law_ 1046 (.iadd) 1 1047 := ⟨dL_law__1046, rfl⟩
theorem dL_law__1047 : decode cL_law_ 1047 = .ok (.iaload, 1) := by decide +kernel
theorem eL_law__1047 : zD KL_law_ 1047 (.iaload) 1 1048 := ⟨dL_law__1047, rfl⟩
theorem dL_law__1048 : decode cL_law_ 1048 = .ok (.aload_n 3, 1) := by decide +kernel
theorem eL_law__1048 : zD KL_law_ 1048 (.aload_n 3) 1 1049 := ⟨dL_law__1048, rfl⟩
theorem dL_law__1049 : decode cL_law_ 1049 = .ok (.invokestatic 207, 3) := by decide +kernel
theorem eL_law__1049 : zD KL_law_ 1049 (.invokestatic 207) 3 1052 := ⟨dL_law__1049, rfl⟩
theorem dL_law__1052 : decode cL_law_ 1052 = .ok (.istore 5, 2) := by decide +kernel
theorem eL_law__1052 : zD KL_law_ 1052 (.istore 5) 2 1054 := ⟨dL_law__1052, rfl⟩
theorem dL_law__1054 : decode cL_law_ 1054 = .ok (.aload_n 2, 1) := by decide +kernel
theorem eL_law__1054 : zD KL_law_ 1054 (.aload_n 2) 1 1055 := ⟨dL_law__1054, rfl⟩
theorem dL_law__1055 : decode cL_law_ 1055 = .ok (.aload_n 0, 1) := by decide +kernel
theorem eL_law__1055 : zD KL_law_ 1055 (.aload_n 0) 1 1056 := ⟨dL_law__1055, rfl⟩
theorem dL_law__1056 : decode cL_law_ 1056 = .ok (.iload 4, 2) := by decide +kernel
theorem eL_law__1056 : zD KL_law_ 1056 (.iload 4) 2 1058 := ⟨dL_law__1056, rfl⟩
theorem dL_law__1058 : decode cL_law_ 1058 = .ok (.iconst 1, 1) := by decide +kernel
theorem eL_law__1058 : zD KL_law_ 1058 (.iconst 1) 1 1059 := ⟨dL_law__1058, rfl⟩
theorem dL_law__1059 : decode cL_law_ 1059 = .ok (.iadd, 1) := by decide +kernel
theorem eL_law__1059 : zD KL_law_ 1059 (.iadd) 1 1060 := ⟨dL_law__1059, rfl⟩
theorem dL_law__1060 : decode cL_law_ 1060 = .ok (.iaload, 1) := by decide +kernel
theorem eL_law__1060 : zD KL_law_ 1060 (.iaload) 1 1061 := ⟨dL_law__1060, rfl⟩
theorem dL_law__1061 : decode cL_law_ 1061 = .ok (.aload_n 0, 1) := by decide +kernel
theorem eL_law__1061 : zD KL_law_ 1061 (.aload_n 0) 1 1062 := ⟨dL_law__1061, rfl⟩
theorem dL_law__1062 : decode cL_law_ 1062 = .ok (.iload 4, 2) := by decide +kernel
theorem eL_law__1062 : zD KL_law_ 1062 (.iload 4) 2 1064 := ⟨dL_law__1062, rfl⟩
theorem dL_law__1064 : decode cL_law_ 1064 = .ok (.iconst 2, 1) := by decide +kernel
theorem eL_law__1064 : zD KL_law_ 1064 (.iconst 2) 1 1065 := ⟨dL_law__1064, rfl⟩
theorem dL_law__1065 : decode cL_law_ 1065 = .ok (.iadd, 1) := by decide +kernel
theorem eL_law__1065 : zD KL_law_ 1065 (.iadd) 1 1066 := ⟨dL_law__1065, rfl⟩
theorem dL_law__1066 : decode cL_law_ 1066 = .ok (.iaload, 1) := by decide +kernel
theorem eL_law__1066 : zD KL_law_ 1066 (.iaload) 1 1067 := ⟨dL_law__1066, rfl⟩
theorem dL_law__1067 : decode cL_law_ 1067 = .ok (.invokevirtual 209, 3) := by decide +kernel
theorem eL_law__1067 : zD KL_law_ 1067 (.invokevirtual 209) 3 1070 := ⟨dL_law__1067, rfl⟩
theorem dL_law__1070 : decode cL_law_ 1070 = .ok (.istore 6, 2) := by decide +kernel
theorem eL_law__1070 : zD KL_law_ 1070 (.istore 6) 2 1072 := ⟨dL_law__1070, rfl⟩
theorem dL_law__1072 : decode cL_law_ 1072 = .ok (.aload_n 2, 1) := by decide +kernel
theorem eL_law__1072 : zD KL_law_ 1072 (.aload_n 2) 1 1073 := ⟨dL_law__1072, rfl⟩
theorem dL_law__1073 : decode cL_law_ 1073 = .ok (.invokevirtual 170, 3) := by decide +kernel
theorem eL_law__1073 : zD KL_law_ 1073 (.invokevirtual 170) 3 1076 := ⟨dL_law__1073, rfl⟩
theorem dL_law__1076 : decode cL_law_ 1076 = .ok (.iload 5, 2) := by decide +kernel
theorem eL_law__1076 : zD KL_law_ 1076 (.iload 5) 2 1078 := ⟨dL_law__1076, rfl⟩
theorem dL_law__1078 : decode cL_law_ 1078 = .ok (.if_icmp .eq 5, 3) := by decide +kernel
theorem eL_law__1078 : zD KL_law_ 1078 (.if_icmp .eq 5) 3 1081 := ⟨dL_law__1078, rfl⟩
theorem dL_law__1081 : decode cL_law_ 1081 = .ok (.iconst 0, 1) := by decide +kernel
theorem eL_law__1081 : zD KL_law_ 1081 (.iconst 0) 1 1082 := ⟨dL_law__1081, rfl⟩
theorem dL_law__1082 : decode cL_law_ 1082 = .ok (.ireturn, 1) := by decide +kernel
theorem eL_law__1082 : zD KL_law_ 1082 (.ireturn) 1 1083 := ⟨dL_law__1082, rfl⟩
theorem dL_law__1083 : decode cL_law_ 1083 = .ok (.iload 5, 2) := by decide +kernel
theorem eL_law__1083 : zD KL_law_ 1083 (.iload 5) 2 1085 := ⟨dL_law__1083, rfl⟩
theorem dL_law__1085 : decode cL_law_ 1085 = .ok (.ifCond .ne 15, 3) := by decide +kernel
theorem eL_law__1085 : zD KL_law_ 1085 (.ifCond .ne 15) 3 1088 := ⟨dL_law__1085, rfl⟩
theorem dL_law__1088 : decode cL_law_ 1088 = .ok (.aload_n 3, 1) := by decide +kernel
theorem eL_law__1088 : zD KL_law_ 1088 (.aload_n 3) 1 1089 := ⟨dL_law__1088, rfl⟩
theorem dL_law__1089 : decode cL_law_ 1089 = .ok (.iconst 0, 1) := by decide +kernel
theorem eL_law__1089 : zD KL_law_ 1089 (.iconst 0) 1 1090 := ⟨dL_law__1089, rfl⟩
theorem dL_law__1090 : decode cL_law_ 1090 = .ok (.laload, 1) := by decide +kernel
theorem eL_law__1090 : zD KL_law_ 1090 (.laload) 1 1091 := ⟨dL_law__1090, rfl⟩
theorem dL_law__1091 : decode cL_law_ 1091 = .ok (.iload 6, 2) := by decide +kernel
theorem eL_law__1091 : zD KL_law_ 1091 (.iload 6) 2 1093 := ⟨dL_law__1091, rfl⟩
theorem dL_law__1093 : decode cL_law_ 1093 = .ok (.i2l, 1) := by decide +kernel
theorem eL_law__1093 : zD KL_law_ 1093 (.i2l) 1 1094 := ⟨dL_law__1093, rfl⟩
theorem dL_law__1094 : decode cL_law_ 1094 = .ok (.lcmp, 1) := by decide +kernel
theorem eL_law__1094 : zD KL_law_ 1094 (.lcmp) 1 1095 := ⟨dL_law__1094, rfl⟩
theorem dL_law__1095 : decode cL_law_ 1095 = .ok (.ifCond .eq 5, 3) := by decide +kernel
theorem eL_law__1095 : zD KL_law_ 1095 (.ifCond .eq 5) 3 1098 := ⟨dL_law__1095, rfl⟩
theorem dL_law__1098 : decode cL_law_ 1098 = .ok (.iconst 0, 1) := by decide +kernel
theorem eL_law__1098 : zD KL_law_ 1098 (.iconst 0) 1 1099 := ⟨dL_law__1098, rfl⟩
theorem dL_law__1099 : decode cL_law_ 1099 = .ok (.ireturn, 1) := by decide +kernel
theorem eL_law__1099 : zD KL_law_ 1099 (.ireturn) 1 1100 := ⟨dL_law__1099, rfl⟩
theorem dL_law__1100 : decode cL_law_ 1100 = .ok (.goto 2252, 3) := by decide +kernel
theorem eL_law__1100 : zD KL_law_ 1100 (.goto 2252) 3 1103 := ⟨dL_law__1100, rfl⟩
theorem dL_law__1103 : decode cL_law_ 1103 = .ok (.aload_n 1, 1) := by decide +kernel
theorem eL_law__1103 : zD KL_law_ 1103 (.aload_n 1) 1 1104 := ⟨dL_law__1103, rfl⟩
theorem dL_law__1104 : decode cL_law_ 1104 = .ok (.aload_n 0, 1) := by decide +kernel
theorem eL_law__1104 : zD KL_law_ 1104 (.aload_n 0) 1 1105 := ⟨dL_law__1104, rfl⟩
theorem dL_law__1105 : decode cL_law_ 1105 = .ok (.iload 4, 2) := by decide +kernel
theorem eL_law__1105 : zD KL_law_ 1105 (.iload 4) 2 1107 := ⟨dL_law__1105, rfl⟩
theorem dL_law__1107 : decode cL_law_ 1107 = .ok (.iconst 1, 1) := by decide +kernel
theorem eL_law__1107 : zD KL_law_ 1107 (.iconst 1) 1 1108 := ⟨dL_law__1107, rfl⟩
theorem dL_law__1108 : decode cL_law_ 1108 = .ok (.iadd, 1) := by decide +kernel
theorem eL_law__1108 : zD KL_law_ 1108 (.iadd) 1 1109 := ⟨dL_law__1108, rfl⟩
theorem dL_law__1109 : decode cL_law_ 1109 = .ok (.iaload, 1) := by decide +kernel
theorem eL_law__1109 : zD KL_law_ 1109 (.iaload) 1 1110 := ⟨dL_law__1109, rfl⟩
theorem dL_law__1110 : decode cL_law_ 1110 = .ok (.aload_n 3, 1) := by decide +kernel
theorem eL_law__1110 : zD KL_law_ 1110 (.aload_n 3) 1 1111 := ⟨dL_law__1110, rfl⟩
theorem dL_law__1111 : decode cL_law_ 1111 = .ok (.invokestatic 210, 3) := by decide +kernel
theorem eL_law__1111 : zD KL_law_ 1111 (.invokestatic 210) 3 1114 := ⟨dL_law__1111, rfl⟩
theorem dL_law__1114 : decode cL_law_ 1114 = .ok (.istore 5, 2) := by decide +kernel
theorem eL_law__1114 : zD KL_law_ 1114 (.istore 5) 2 1116 := ⟨dL_law__1114, rfl⟩
theorem dL_law__1116 : decode cL_law_ 1116 = .ok (.aload_n 2, 1) := by decide +kernel
theorem eL_law__1116 : zD KL_law_ 1116 (.aload_n 2) 1 1117 := ⟨dL_law__1116, rfl⟩
theorem dL_law__1117 : decode cL_law_ 1117 = .ok (.aload_n 0, 1) := by decide +kernel
theorem eL_law__1117 : zD KL_law_ 1117 (.aload_n 0) 1 1118 := ⟨dL_law__1117, rfl⟩
theorem dL_law__1118 : decode cL_law_ 1118 = .ok (.iload 4, 2) := by decide +kernel
theorem eL_law__1118 : zD KL_law_ 1118 (.iload 4) 2 1120 := ⟨dL_law__1118, rfl⟩
theorem dL_law__1120 : decode cL_law_ 1120 = .ok (.iconst 1, 1) := by decide +kernel
theorem eL_law__1120 : zD KL_law_ 1120 (.iconst 1) 1 1121 := ⟨dL_law__1120, rfl⟩
theorem dL_law__1121 : decode cL_law_ 1121 = .ok (.iadd, 1) := by decide +kernel
theorem eL_law__1121 : zD KL_law_ 1121 (.iadd) 1 1122 := ⟨dL_law__1121, rfl⟩
theorem dL_law__1122 : decode cL_law_ 1122 = .ok (.iaload, 1) := by decide +kernel
theorem eL_law__1122 : zD KL_law_ 1122 (.iaload) 1 1123 := ⟨dL_law__1122, rfl⟩
theorem dL_law__1123 : decode cL_law_ 1123 = .ok (.invokevirtual 212, 3) := by decide +kernel
theorem eL_law__1123 : zD KL_law_ 1123 (.invokevirtual 212) 3 1126 := ⟨dL_law__1123, rfl⟩
theorem dL_law__1126 : decode cL_law_ 1126 = .ok (.istore 6, 2) := by decide +kernel
theorem eL_law__1126 : zD KL_law_ 1126 (.istore 6) 2 1128 := ⟨dL_law__1126, rfl⟩
theorem dL_law__1128 : decode cL_law_ 1128 = .ok (.aload_n 2, 1) := by decide +kernel
theorem eL_law__1128 : zD KL_law_ 1128 (.aload_n 2) 1 1129 := ⟨dL_law__1128, rfl⟩
theorem dL_law__1129 : decode cL_law_ 1129 = .ok (.invokevirtual 170, 3) := by decide +kernel
theorem eL_law__1129 : zD KL_law_ 1129 (.invokevirtual 170) 3 1132 := ⟨dL_law__1129, rfl⟩
theorem dL_law__1132 : decode cL_law_ 1132 = .ok (.iload 5, 2) := by decide +kernel
theorem eL_law__1132 : zD KL_law_ 1132 (.iload 5) 2 1134 := ⟨dL_law__1132, rfl⟩
theorem dL_law__1134 : decode cL_law_ 1134 = .ok (.if_icmp .eq 5, 3) := by decide +kernel
theorem eL_law__1134 : zD KL_law_ 1134 (.if_icmp .eq 5) 3 1137 := ⟨dL_law__1134, rfl⟩
theorem dL_law__1137 : decode cL_law_ 1137 = .ok (.iconst 0, 1) := by decide +kernel
theorem eL_law__1137 : zD KL_law_ 1137 (.iconst 0) 1 1138 := ⟨dL_law__1137, rfl⟩
theorem dL_law__1138 : decode cL_law_ 1138 = .ok (.ireturn, 1) := by decide +kernel
theorem eL_law__1138 : zD KL_law_ 1138 (.ireturn) 1 1139 := ⟨dL_law__1138, rfl⟩
theorem dL_law__1139 : decode cL_law_ 1139 = .ok (.iload 5, 2) := by decide +kernel
theorem eL_law__1139 : zD KL_law_ 1139 (.iload 5) 2 1141 := ⟨dL_law__1139, rfl⟩
theorem dL_law__1141 : decode cL_law_ 1141 = .ok (.ifCond .ne 15, 3) := by decide +kernel
theorem eL_law__1141 : zD KL_law_ 1141 (.ifCond .ne 15) 3 1144 := ⟨dL_law__1141, rfl⟩
theorem dL_law__1144 : decode cL_law_ 1144 = .ok (.aload_n 3, 1) := by decide +kernel
theorem eL_law__1144 : zD KL_law_ 1144 (.aload_n 3) 1 1145 := ⟨dL_law__1144, rfl⟩
theorem dL_law__1145 : decode cL_law_ 1145 = .ok (.iconst 0, 1) := by decide +kernel
theorem eL_law__1145 : zD KL_law_ 1145 (.iconst 0) 1 1146 := ⟨dL_law__1145, rfl⟩
theorem dL_law__1146 : decode cL_law_ 1146 = .ok (.laload, 1) := by decide +kernel
theorem eL_law__1146 : zD KL_law_ 1146 (.laload) 1 1147 := ⟨dL_law__1146, rfl⟩
theorem dL_law__1147 : decode cL_law_ 1147 = .ok (.iload 6, 2) := by decide +kernel
theorem eL_law__1147 : zD KL_law_ 1147 (.iload 6) 2 1149 := ⟨dL_law__1147, rfl⟩
theorem dL_law__1149 : decode cL_law_ 1149 = .ok (.i2l, 1) := by decide +kernel
theorem eL_law__1149 : zD KL_law_ 1149 (.i2l) 1 1150 := ⟨dL_law__1149, rfl⟩
theorem dL_law__1150 : decode cL_law_ 1150 = .ok (.lcmp, 1) := by decide +kernel
theorem eL_law__1150 : zD KL_law_ 1150 (.lcmp) 1 1151 := ⟨dL_law__1150, rfl⟩
theorem dL_law__1151 : decode cL_law_ 1151 = .ok (.ifCond .eq 5, 3) := by decide +kernel
theorem eL_law__1151 : zD KL_law_ 1151 (.ifCond .eq 5) 3 1154 := ⟨dL_law__1151, rfl⟩
theorem dL_law__1154 : decode cL_law_ 1154 = .ok (.iconst 0, 1) := by decide +kernel
theorem eL_law__1154 : zD KL_law_ 1154 (.iconst 0) 1 1155 := ⟨dL_law__1154, rfl⟩
theorem dL_law__1155 : decode cL_law_ 1155 = .ok (.ireturn, 1) := by decide +kernel
theorem eL_law__1155 : zD KL_law_ 1155 (.ireturn) 1 1156 := ⟨dL_law__1155, rfl⟩
theorem dL_law__1156 : decode cL_law_ 1156 = .ok (.goto 2196, 3) := by decide +kernel
theorem eL_law__1156 : zD KL_law_ 1156 (.goto 2196) 3 1159 := ⟨dL_law__1156, rfl⟩
theorem dL_law__1159 : decode cL_law_ 1159 = .ok (.aload_n 1, 1) := by decide +kernel
theorem eL_law__1159 : zD KL_law_ 1159 (.aload_n 1) 1 1160 := ⟨dL_law__1159, rfl⟩
theorem dL_law__1160 : decode cL_law_ 1160 = .ok (.aload_n 0, 1) := by decide +kernel
theorem eL_law__1160 : zD KL_law_ 1160 (.aload_n 0) 1 1161 := ⟨dL_law__1160, rfl⟩
theorem dL_law__1161 : decode cL_law_ 1161 = .ok (.iload 4, 2) := by decide +kernel
theorem eL_law__1161 : zD KL_law_ 1161 (.iload 4) 2 1163 := ⟨dL_law__1161, rfl⟩
theorem dL_law__1163 : decode cL_law_ 1163 = .ok (.iconst 1, 1) := by decide +kernel
theorem eL_law__1163 : zD KL_law_ 1163 (.iconst 1) 1 1164 := ⟨dL_law__1163, rfl⟩
theorem dL_law__1164 : decode cL_law_ 1164 = .ok (.iadd, 1) := by decide +kernel
theorem eL_law__1164 : zD KL_law_ 1164 (.iadd) 1 1165 := ⟨dL_law__1164, rfl⟩
theorem dL_law__1165 : decode cL_law_ 1165 = .ok (.iaload, 1) := by decide +kernel
theorem eL_law__1165 : zD KL_law_ 1165 (.iaload) 1 1166 := ⟨dL_law__1165, rfl⟩
theorem dL_law__1166 : decode cL_law_ 1166 = .ok (.aload_n 0, 1) := by decide +kernel
theorem eL_law__1166 : zD KL_law_ 1166 (.aload_n 0) 1 1167 := ⟨dL_law__1166, rfl⟩
theorem dL_law__1167 : decode cL_law_ 1167 = .ok (.iload 4, 2) := by decide +kernel
theorem eL_law__1167 : zD KL_law_ 1167 (.iload 4) 2 1169 := ⟨dL_law__1167, rfl⟩
theorem dL_law__1169 : decode cL_law_ 1169 = .ok (.iconst 2, 1) := by decide +kernel
theorem eL_law__1169 : zD KL_law_ 1169 (.iconst 2) 1 1170 := ⟨dL_law__1169, rfl⟩
theorem dL_law__1170 : decode cL_law_ 1170 = .ok (.iadd, 1) := by decide +kernel
theorem eL_law__1170 : zD KL_law_ 1170 (.iadd) 1 1171 := ⟨dL_law__1170, rfl⟩
theorem dL_law__1171 : decode cL_law_ 1171 = .ok (.iaload, 1) := by decide +kernel
theorem eL_law__1171 : zD KL_law_ 1171 (.iaload) 1 1172 := ⟨dL_law__1171, rfl⟩
theorem dL_law__1172 : decode cL_law_ 1172 = .ok (.ifCond .eq 7, 3) := by decide +kernel
theorem eL_law__1172 : zD KL_law_ 1172 (.ifCond .eq 7) 3 1175 := ⟨dL_law__1172, rfl⟩
theorem dL_law__1175 : decode cL_law_ 1175 = .ok (.iconst 1, 1) := by decide +kernel
theorem eL_law__1175 : zD KL_law_ 1175 (.iconst 1) 1 1176 := ⟨dL_law__1175, rfl⟩
theorem dL_law__1176 : decode cL_law_ 1176 = .ok (.goto 4, 3) := by decide +kernel
theorem eL_law__1176 : zD KL_law_ 1176 (.goto 4) 3 1179 := ⟨dL_law__1176, rfl⟩
theorem dL_law__1179 : decode cL_law_ 1179 = .ok (.iconst 0, 1) := by decide +kernel
theorem eL_law__1179 : zD KL_law_ 1179 (.iconst 0) 1 1180 := ⟨dL_law__1179, rfl⟩
theorem dL_law__1180 : decode cL_law_ 1180 = .ok (.aload_n 3, 1) := by decide +kernel
theorem eL_law__1180 : zD KL_law_ 1180 (.aload_n 3) 1 1181 := ⟨dL_law__1180, rfl⟩
theorem dL_law__1181 : decode cL_law_ 1181 = .ok (.invokestatic 213, 3) := by decide +kernel
theorem eL_law__1181 : zD KL_law_ 1181 (.invokestatic 213) 3 1184 := ⟨dL_law__1181, rfl⟩
theorem dL_law__1184 : decode cL_law_ 1184 = .ok (.istore 5, 2) := by decide +kernel
theorem eL_law__1184 : zD KL_law_ 1184 (.istore 5) 2 1186 := ⟨dL_law__1184, rfl⟩
theorem dL_law__1186 : decode cL_law_ 1186 = .ok (.aload_n 2, 1) := by decide +kernel
theorem eL_law__1186 : zD KL_law_ 1186 (.aload_n 2) 1 1187 := ⟨dL_law__1186, rfl⟩
theorem dL_law__1187 : decode cL_law_ 1187 = .ok (.aload_n 0, 1) := by decide +kernel
theorem eL_law__1187 : zD KL_law_ 1187 (.aload_n 0) 1 1188 := ⟨dL_law__1187, rfl⟩
theorem dL_law__1188 : decode cL_law_ 1188 = .ok (.iload 4, 2) := by decide +kernel
theorem eL_law__1188 : zD KL_law_ 1188 (.iload 4) 2 1190 := ⟨dL_law__1188, rfl⟩
theorem dL_law__1190 : decode cL_law_ 1190 = .ok (.iconst 1, 1) := by decide +kernel
theorem eL_law__1190 : zD KL_law_ 1190 (.iconst 1) 1 1191 := ⟨dL_law__1190, rfl⟩
theorem dL_law__1191 : decode cL_law_ 1191 = .ok (.iadd, 1) := by decide +kernel
theorem eL_law__1191 : zD KL_law_ 1191 (.iadd) 1 1192 := ⟨dL_law__1191, rfl⟩
theorem dL_law__1192 : decode cL_law_ 1192 = .ok (.iaload, 1) := by decide +kernel
theorem eL_law__1192 : zD KL_law_ 1192 (.iaload) 1 1193 := ⟨dL_law__1192, rfl⟩
theorem dL_law__1193 : decode cL_law_ 1193 = .ok (.aload_n 0, 1) := by decide +kernel
theorem eL_law__1193 : zD KL_law_ 1193 (.aload_n 0) 1 1194 := ⟨dL_law__1193, rfl⟩
theorem dL_law__1194 : decode cL_law_ 1194 = .ok (.iload 4, 2) := by decide +kernel
theorem eL_law__1194 : zD KL_law_ 1194 (.iload 4) 2 1196 := ⟨dL_law__1194, rfl⟩
theorem dL_law__1196 : decode cL_law_ 1196 = .ok (.iconst 2, 1) := by decide +kernel
theorem eL_law__1196 : zD KL_law_ 1196 (.iconst 2) 1 1197 := ⟨dL_law__1196, rfl⟩
theorem dL_law__1197 : decode cL_law_ 1197 = .ok (.iadd, 1) := by decide +kernel
theorem eL_law__1197 : zD KL_law_ 1197 (.iadd) 1 1198 := ⟨dL_law__1197, rfl⟩
theorem dL_law__1198 : decode cL_law_ 1198 = .ok (.iaload, 1) := by decide +kernel
theorem eL_law__1198 : zD KL_law_ 1198 (.iaload) 1 1199 := ⟨dL_law__1198, rfl⟩
theorem dL_law__1199 : decode cL_law_ 1199 = .ok (.ifCond .eq 7, 3) := by decide +kernel
theorem eL_law__1199 : zD KL_law_ 1199 (.ifCond .eq 7) 3 1202 := ⟨dL_law__1199, rfl⟩
theorem dL_law__1202 : decode cL_law_ 1202 = .ok (.iconst 1, 1) := by decide +kernel
theorem eL_law__1202 : zD KL_law_ 1202 (.iconst 1) 1 1203 := ⟨dL_law__1202, rfl⟩
theorem dL_law__1203 : decode cL_law_ 1203 = .ok (.goto 4, 3) := by decide +kernel
theorem eL_law__1203 : zD KL_law_ 1203 (.goto 4) 3 1206 := ⟨dL_law__1203, rfl⟩
theorem dL_law__1206 : decode cL_law_ 1206 = .ok (.iconst 0, 1) := by decide +kernel
theorem eL_law__1206 : zD KL_law_ 1206 (.iconst 0) 1 1207 := ⟨dL_law__1206, rfl⟩
theorem dL_law__1207 : decode cL_law_ 1207 = .ok (.invokevirtual 216, 3) := by decide +kernel
theorem eL_law__1207 : zD KL_law_ 1207 (.invokevirtual 216) 3 1210 := ⟨dL_law__1207, rfl⟩
theorem dL_law__1210 : decode cL_law_ 1210 = .ok (.istore 6, 2) := by decide +kernel
theorem eL_law__1210 : zD KL_law_ 1210 (.istore 6) 2 1212 := ⟨dL_law__1210, rfl⟩
theorem dL_law__1212 : decode cL_law_ 1212 = .ok (.aload_n 2, 1) := by decide +kernel
theorem eL_law__1212 : zD KL_law_ 1212 (.aload_n 2) 1 1213 := ⟨dL_law__1212, rfl⟩
theorem dL_law__1213 : decode cL_law_ 1213 = .ok (.invokevirtual 170, 3) := by decide +kernel
theorem eL_law__1213 : zD KL_law_ 1213 (.invokevirtual 170) 3 1216 := ⟨dL_law__1213, rfl⟩
theorem dL_law__1216 : decode cL_law_ 1216 = .ok (.iload 5, 2) := by decide +kernel
theorem eL_law__1216 : zD KL_law_ 1216 (.iload 5) 2 1218 := ⟨dL_law__1216, rfl⟩
theorem dL_law__1218 : decode cL_law_ 1218 = .ok (.if_icmp .eq 5, 3) := by decide +kernel
theorem eL_law__1218 : zD KL_law_ 1218 (.if_icmp .eq 5) 3 1221 := ⟨dL_law__1218, rfl⟩
theorem dL_law__1221 : decode cL_law_ 1221 = .ok (.iconst 0, 1) := by decide +kernel
theorem eL_law__1221 : zD KL_law_ 1221 (.iconst 0) 1 1222 := ⟨dL_law__1221, rfl⟩
theorem dL_law__1222 : decode cL_law_ 1222 = .ok (.ireturn, 1) := by decide +kernel
theorem eL_law__1222 : zD KL_law_ 1222 (.ireturn) 1 1223 := ⟨dL_law__1222, rfl⟩
theorem dL_law__1223 : decode cL_law_ 1223 = .ok (.iload 5, 2) := by decide +kernel
theorem eL_law__1223 : zD KL_law_ 1223 (.iload 5) 2 1225 := ⟨dL_law__1223, rfl⟩
theorem dL_law__1225 : decode cL_law_ 1225 = .ok (.ifCond .ne 22, 3) := by decide +kernel
theorem eL_law__1225 : zD KL_law_ 1225 (.ifCond .ne 22) 3 1228 := ⟨dL_law__1225, rfl⟩
theorem dL_law__1228 : decode cL_law_ 1228 = .ok (.aload_n 3, 1) := by decide +kernel
theorem eL_law__1228 : zD KL_law_ 1228 (.aload_n 3) 1 1229 := ⟨dL_law__1228, rfl⟩
theorem dL_law__1229 : decode cL_law_ 1229 = .ok (.iconst 0, 1) := by decide +kernel
theorem eL_law__1229 : zD KL_law_ 1229 (.iconst 0) 1 1230 := ⟨dL_law__1229, rfl⟩
theorem dL_law__1230 : decode cL_law_ 1230 = .ok (.laload, 1) := by decide +kernel
theorem eL_law__1230 : zD KL_law_ 1230 (.laload) 1 1231 := ⟨dL_law__1230, rfl⟩
theorem dL_law__1231 : decode cL_law_ 1231 = .ok (.iload 6, 2) := by decide +kernel
theorem eL_law__1231 : zD KL_law_ 1231 (.iload 6) 2 1233 := ⟨dL_law__1231, rfl⟩
theorem dL_law__1233 : decode cL_law_ 1233 = .ok (.ifCond .eq 7, 3) := by decide +kernel
theorem eL_law__1233 : zD KL_law_ 1233 (.ifCond .eq 7) 3 1236 := ⟨dL_law__1233, rfl⟩
theorem dL_law__1236 : decode cL_law_ 1236 = .ok (.lconst 1, 1) := by decide +kernel
theorem eL_law__1236 : zD KL_law_ 1236 (.lconst 1) 1 1237 := ⟨dL_law__1236, rfl⟩
theorem dL_law__1237 : decode cL_law_ 1237 = .ok (.goto 4, 3) := by decide +kernel
theorem eL_law__1237 : zD KL_law_ 1237 (.goto 4) 3 1240 := ⟨dL_law__1237, rfl⟩
theorem dL_law__1240 : decode cL_law_ 1240 = .ok (.lconst 0, 1) := by decide +kernel
theorem eL_law__1240 : zD KL_law_ 1240 (.lconst 0) 1 1241 := ⟨dL_law__1240, rfl⟩
theorem dL_law__1241 : decode cL_law_ 1241 = .ok (.lcmp, 1) := by decide +kernel
theorem eL_law__1241 : zD KL_law_ 1241 (.lcmp) 1 1242 := ⟨dL_law__1241, rfl⟩
theorem dL_law__1242 : decode cL_law_ 1242 = .ok (.ifCond .eq 5, 3) := by decide +kernel
theorem eL_law__1242 : zD KL_law_ 1242 (.ifCond .eq 5) 3 1245 := ⟨dL_law__1242, rfl⟩
theorem dL_law__1245 : decode cL_law_ 1245 = .ok (.iconst 0, 1) := by decide +kernel
theorem eL_law__1245 : zD KL_law_ 1245 (.iconst 0) 1 1246 := ⟨dL_law__1245, rfl⟩
theorem dL_law__1246 : decode cL_law_ 1246 = .ok (.ireturn, 1) := by decide +kernel
theorem eL_law__1246 : zD KL_law_ 1246 (.ireturn) 1 1247 := ⟨dL_law__1246, rfl⟩
theorem dL_law__1247 : decode cL_law_ 1247 = .ok (.goto 2105, 3) := by decide +kernel
theorem eL_law__1247 : zD KL_law_ 1247 (.goto 2105) 3 1250 := ⟨dL_law__1247, rfl⟩
theorem dL_law__1250 : decode cL_law_ 1250 = .ok (.aload_n 1, 1) := by decide +kernel
theorem eL_law__1250 : zD KL_law_ 1250 (.aload_n 1) 1 1251 := ⟨dL_law__1250, rfl⟩
theorem dL_law__1251 : decode cL_law_ 1251 = .ok (.aload_n 0, 1) := by decide +kernel
theorem eL_law__1251 : zD KL_law_ 1251 (.aload_n 0) 1 1252 := ⟨dL_law__1251, rfl⟩
theorem dL_law__1252 : decode cL_law_ 1252 = .ok (.iload 4, 2) := by decide +kernel
theorem eL_law__1252 : zD KL_law_ 1252 (.iload 4) 2 1254 := ⟨dL_law__1252, rfl⟩
theorem dL_law__1254 : decode cL_law_ 1254 = .ok (.iconst 1, 1) := by decide +kernel
theorem eL_law__1254 : zD KL_law_ 1254 (.iconst 1) 1 1255 := ⟨dL_law__1254, rfl⟩
theorem dL_law__1255 : decode cL_law_ 1255 = .ok (.iadd, 1) := by decide +kernel
theorem eL_law__1255 : zD KL_law_ 1255 (.iadd) 1 1256 := ⟨dL_law__1255, rfl⟩
theorem dL_law__1256 : decode cL_law_ 1256 = .ok (.iaload, 1) := by decide +kernel
theorem eL_law__1256 : zD KL_law_ 1256 (.iaload) 1 1257 := ⟨dL_law__1256, rfl⟩
theorem dL_law__1257 : decode cL_law_ 1257 = .ok (.aload_n 0, 1) := by decide +kernel
theorem eL_law__1257 : zD KL_law_ 1257 (.aload_n 0) 1 1258 := ⟨dL_law__1257, rfl⟩
theorem dL_law__1258 : decode cL_law_ 1258 = .ok (.iload 4, 2) := by decide +kernel
theorem eL_law__1258 : zD KL_law_ 1258 (.iload 4) 2 1260 := ⟨dL_law__1258, rfl⟩
theorem dL_law__1260 : decode cL_law_ 1260 = .ok (.iconst 2, 1) := by decide +kernel
theorem eL_law__1260 : zD KL_law_ 1260 (.iconst 2) 1 1261 := ⟨dL_law__1260, rfl⟩
theorem dL_law__1261 : decode cL_law_ 1261 = .ok (.iadd, 1) := by decide +kernel
theorem eL_law__1261 : zD KL_law_ 1261 (.iadd) 1 1262 := ⟨dL_law__1261, rfl⟩
theorem dL_law__1262 : decode cL_law_ 1262 = .ok (.iaload, 1) := by decide +kernel
theorem eL_law__1262 : zD KL_law_ 1262 (.iaload) 1 1263 := ⟨dL_law__1262, rfl⟩
theorem dL_law__1263 : decode cL_law_ 1263 = .ok (.ifCond .eq 7, 3) := by decide +kernel
theorem eL_law__1263 : zD KL_law_ 1263 (.ifCond .eq 7) 3 1266 := ⟨dL_law__1263, rfl⟩
theorem dL_law__1266 : decode cL_law_ 1266 = .ok (.iconst 1, 1) := by decide +kernel
theorem eL_law__1266 : zD KL_law_ 1266 (.iconst 1) 1 1267 := ⟨dL_law__1266, rfl⟩
theorem dL_law__1267 : decode cL_law_ 1267 = .ok (.goto 4, 3) := by decide +kernel
theorem eL_law__1267 : zD KL_law_ 1267 (.goto 4) 3 1270 := ⟨dL_law__1267, rfl⟩
theorem dL_law__1270 : decode cL_law_ 1270 = .ok (.iconst 0, 1) := by decide +kernel
theorem eL_law__1270 : zD KL_law_ 1270 (.iconst 0) 1 1271 := ⟨dL_law__1270, rfl⟩
theorem dL_law__1271 : decode cL_law_ 1271 = .ok (.aload_n 3, 1) := by decide +kernel
theorem eL_law__1271 : zD KL_law_ 1271 (.aload_n 3) 1 1272 := ⟨dL_law__1271, rfl⟩
theorem dL_law__1272 : decode cL_law_ 1272 = .ok (.invokestatic 217, 3) := by decide +kernel
theorem eL_law__1272 : zD KL_law_ 1272 (.invokestatic 217) 3 1275 := ⟨dL_law__1272, rfl⟩
theorem dL_law__1275 : decode cL_law_ 1275 = .ok (.istore 5, 2) := by decide +kernel
theorem eL_law__1275 : zD KL_law_ 1275 (.istore 5) 2 1277 := ⟨dL_law__1275, rfl⟩
theorem dL_law__1277 : decode cL_law_ 1277 = .ok (.aload_n 2, 1) := by decide +kernel
theorem eL_law__1277 : zD KL_law_ 1277 (.aload_n 2) 1 1278 := ⟨dL_law__1277, rfl⟩
theorem dL_law__1278 : decode cL_law_ 1278 = .ok (.aload_n 0, 1) := by decide +kernel
theorem eL_law__1278 : zD KL_law_ 1278 (.aload_n 0) 1 1279 := ⟨dL_law__1278, rfl⟩
theorem dL_law__1279 : decode cL_law_ 1279 = .ok (.iload 4, 2) := by decide +kernel
theorem eL_law__1279 : zD KL_law_ 1279 (.iload 4) 2 1281 := ⟨dL_law__1279, rfl⟩
theorem dL_law__1281 : decode cL_law_ 1281 = .ok (.iconst 1, 1) := by decide +kernel
theorem eL_law__1281 : zD KL_law_ 1281 (.iconst 1) 1 1282 := ⟨dL_law__1281, rfl⟩
theorem dL_law__1282 : decode cL_law_ 1282 = .ok (.iadd, 1) := by decide +kernel
theorem eL_law__1282 : zD KL_law_ 1282 (.iadd) 1 1283 := ⟨dL_law__1282, rfl⟩
theorem dL_law__1283 : decode cL_law_ 1283 = .ok (.iaload, 1) := by decide +kernel
theorem eL_law__1283 : zD KL_law_ 1283 (.iaload) 1 1284 := ⟨dL_law__1283, rfl⟩
theorem dL_law__1284 : decode cL_law_ 1284 = .ok (.aload_n 0, 1) := by decide +kernel
theorem eL_law__1284 : zD KL_law_ 1284 (.aload_n 0) 1 1285 := ⟨dL_law__1284, rfl⟩
theorem dL_law__1285 : decode cL_law_ 1285 = .ok (.iload 4, 2) := by decide +kernel
theorem eL_law__1285 : zD KL_law_ 1285 (.iload 4) 2 1287 := ⟨dL_law__1285, rfl⟩
theorem dL_law__1287 : decode cL_law_ 1287 = .ok (.iconst 2, 1) := by decide +kernel
theorem eL_law__1287 : zD KL_law_ 1287 (.iconst 2) 1 1288 := ⟨dL_law__1287, rfl⟩
theorem dL_law__1288 : decode cL_law_ 1288 = .ok (.iadd, 1) := by decide +kernel
theorem eL_law__1288 : zD KL_law_ 1288 (.iadd) 1 1289 := ⟨dL_law__1288, rfl⟩
theorem dL_law__1289 : decode cL_law_ 1289 = .ok (.iaload, 1) := by decide +kernel
theorem eL_law__1289 : zD KL_law_ 1289 (.iaload) 1 1290 := ⟨dL_law__1289, rfl⟩
theorem dL_law__1290 : decode cL_law_ 1290 = .ok (.ifCond .eq 7, 3) := by decide +kernel
theorem eL_law__1290 : zD KL_law_ 1290 (.ifCond .eq 7) 3 1293 := ⟨dL_law__1290, rfl⟩
theorem dL_law__1293 : decode cL_law_ 1293 = .ok (.iconst 1, 1) := by decide +kernel
theorem eL_law__1293 : zD KL_law_ 1293 (.iconst 1) 1 1294 := ⟨dL_law__1293, rfl⟩
theorem dL_law__1294 : decode cL_law_ 1294 = .ok (.goto 4, 3) := by decide +kernel
theorem eL_law__1294 : zD KL_law_ 1294 (.goto 4) 3 1297 := ⟨dL_law__1294, rfl⟩
theorem dL_law__1297 : decode cL_law_ 1297 = .ok (.iconst 0, 1) := by decide +kernel
theorem eL_law__1297 : zD KL_law_ 1297 (.iconst 0) 1 1298 := ⟨dL_law__1297, rfl⟩
theorem dL_law__1298 : decode cL_law_ 1298 = .ok (.invokevirtual 219, 3) := by decide +kernel
theorem eL_law__1298 : zD KL_law_ 1298 (.invokevirtual 219) 3 1301 := ⟨dL_law__1298, rfl⟩
theorem dL_law__1301 : decode cL_law_ 1301 = .ok (.istore 6, 2) := by decide +kernel
theorem eL_law__1301 : zD KL_law_ 1301 (.istore 6) 2 1303 := ⟨dL_law__1301, rfl⟩
theorem dL_law__1303 : decode cL_law_ 1303 = .ok (.aload_n 2, 1) := by decide +kernel
theorem eL_law__1303 : zD KL_law_ 1303 (.aload_n 2) 1 1304 := ⟨dL_law__1303, rfl⟩
theorem dL_law__1304 : decode cL_law_ 1304 = .ok (.invokevirtual 170, 3) := by decide +kernel
theorem eL_law__1304 : zD KL_law_ 1304 (.invokevirtual 170) 3 1307 := ⟨dL_law__1304, rfl⟩
theorem dL_law__1307 : decode cL_law_ 1307 = .ok (.iload 5, 2) := by decide +kernel
theorem eL_law__1307 : zD KL_law_ 1307 (.iload 5) 2 1309 := ⟨dL_law__1307, rfl⟩
theorem dL_law__1309 : decode cL_law_ 1309 = .ok (.if_icmp .eq 5, 3) := by decide +kernel
theorem eL_law__1309 : zD KL_law_ 1309 (.if_icmp .eq 5) 3 1312 := ⟨dL_law__1309, rfl⟩
theorem dL_law__1312 : decode cL_law_ 1312 = .ok (.iconst 0, 1) := by decide +kernel
theorem eL_law__1312 : zD KL_law_ 1312 (.iconst 0) 1 1313 := ⟨dL_law__1312, rfl⟩
theorem dL_law__1313 : decode cL_law_ 1313 = .ok (.ireturn, 1) := by decide +kernel
theorem eL_law__1313 : zD KL_law_ 1313 (.ireturn) 1 1314 := ⟨dL_law__1313, rfl⟩
theorem dL_law__1314 : decode cL_law_ 1314 = .ok (.iload 5, 2) := by decide +kernel
theorem eL_law__1314 : zD KL_law_ 1314 (.iload 5) 2 1316 := ⟨dL_law__1314, rfl⟩
theorem dL_law__1316 : decode cL_law_ 1316 = .ok (.ifCond .ne 22, 3) := by decide +kernel
theorem eL_law__1316 : zD KL_law_ 1316 (.ifCond .ne 22) 3 1319 := ⟨dL_law__1316, rfl⟩
theorem dL_law__1319 : decode cL_law_ 1319 = .ok (.aload_n 3, 1) := by decide +kernel
theorem eL_law__1319 : zD KL_law_ 1319 (.aload_n 3) 1 1320 := ⟨dL_law__1319, rfl⟩
theorem dL_law__1320 : decode cL_law_ 1320 = .ok (.iconst 0, 1) := by decide +kernel
theorem eL_law__1320 : zD KL_law_ 1320 (.iconst 0) 1 1321 := ⟨dL_law__1320, rfl⟩
theorem dL_law__1321 : decode cL_law_ 1321 = .ok (.laload, 1) := by decide +kernel
theorem eL_law__1321 : zD KL_law_ 1321 (.laload) 1 1322 := ⟨dL_law__1321, rfl⟩
theorem dL_law__1322 : decode cL_law_ 1322 = .ok (.iload 6, 2) := by decide +kernel
theorem eL_law__1322 : zD KL_law_ 1322 (.iload 6) 2 1324 := ⟨dL_law__1322, rfl⟩
theorem dL_law__1324 : decode cL_law_ 1324 = .ok (.ifCond .eq 7, 3) := by decide +kernel
theorem eL_law__1324 : zD KL_law_ 1324 (.ifCond .eq 7) 3 1327 := ⟨dL_law__1324, rfl⟩
theorem dL_law__1327 : decode cL_law_ 1327 = .ok (.lconst 1, 1) := by decide +kernel
theorem eL_law__1327 : zD KL_law_ 1327 (.lconst 1) 1 1328 := ⟨dL_law__1327, rfl⟩
theorem dL_law__1328 : decode cL_law_ 1328 = .ok (.goto 4, 3) := by decide +kernel
theorem eL_law__1328 : zD KL_law_ 1328 (.goto 4) 3 1331 := ⟨dL_law__1328, rfl⟩
theorem dL_law__1331 : decode cL_law_ 1331 = .ok (.lconst 0, 1) := by decide +kernel
theorem eL_law__1331 : zD KL_law_ 1331 (.lconst 0) 1 1332 := ⟨dL_law__1331, rfl⟩
theorem dL_law__1332 : decode cL_law_ 1332 = .ok (.lcmp, 1) := by decide +kernel
theorem eL_law__1332 : zD KL_law_ 1332 (.lcmp) 1 1333 := ⟨dL_law__1332, rfl⟩
theorem dL_law__1333 : decode cL_law_ 1333 = .ok (.ifCond .eq 5, 3) := by decide +kernel
theorem eL_law__1333 : zD KL_law_ 1333 (.ifCond .eq 5) 3 1336 := ⟨dL_law__1333, rfl⟩
theorem dL_law__1336 : decode cL_law_ 1336 = .ok (.iconst 0, 1) := by decide +kernel
theorem eL_law__1336 : zD KL_law_ 1336 (.iconst 0) 1 1337 := ⟨dL_law__1336, rfl⟩
theorem dL_law__1337 : decode cL_law_ 1337 = .ok (.ireturn, 1) := by decide +kernel
theorem eL_law__1337 : zD KL_law_ 1337 (.ireturn) 1 1338 := ⟨dL_law__1337, rfl⟩
theorem dL_law__1338 : decode cL_law_ 1338 = .ok (.goto 2014, 3) := by decide +kernel
theorem eL_law__1338 : zD KL_law_ 1338 (.goto 2014) 3 1341 := ⟨dL_law__1338, rfl⟩
theorem dL_law__1341 : decode cL_law_ 1341 = .ok (.aload_n 1, 1) := by decide +kernel
theorem eL_law__1341 : zD KL_law_ 1341 (.aload_n 1) 1 1342 := ⟨dL_law__1341, rfl⟩
theorem dL_law__1342 : decode cL_law_ 1342 = .ok (.aload_n 0, 1) := by decide +kernel
theorem eL_law__1342 : zD KL_law_ 1342 (.aload_n 0) 1 1343 := ⟨dL_law__1342, rfl⟩
theorem dL_law__1343 : decode cL_law_ 1343 = .ok (.iload 4, 2) := by decide +kernel
theorem eL_law__1343 : zD KL_law_ 1343 (.iload 4) 2 1345 := ⟨dL_law__1343, rfl⟩
theorem dL_law__1345 : decode cL_law_ 1345 = .ok (.iconst 1, 1) := by decide +kernel
theorem eL_law__1345 : zD KL_law_ 1345 (.iconst 1) 1 1346 := ⟨dL_law__1345, rfl⟩
theorem dL_law__1346 : decode cL_law_ 1346 = .ok (.iadd, 1) := by decide +kernel
theorem eL_law__1346 : zD KL_law_ 1346 (.iadd) 1 1347 := ⟨dL_law__1346, rfl⟩
theorem dL_law__1347 : decode cL_law_ 1347 = .ok (.iaload, 1) := by decide +kernel
theorem eL_law__1347 : zD KL_law_ 1347 (.iaload) 1 1348 := ⟨dL_law__1347, rfl⟩
theorem dL_law__1348 : decode cL_law_ 1348 = .ok (.aload_n 0, 1) := by decide +kernel
theorem eL_law__1348 : zD KL_law_ 1348 (.aload_n 0) 1 1349 := ⟨dL_law__1348, rfl⟩
theorem dL_law__1349 : decode cL_law_ 1349 = .ok (.iload 4, 2) := by decide +kernel
theorem eL_law__1349 : zD KL_law_ 1349 (.iload 4) 2 1351 := ⟨dL_law__1349, rfl⟩
theorem dL_law__1351 : decode cL_law_ 1351 = .ok (.iconst 2, 1) := by decide +kernel
theorem eL_law__1351 : zD KL_law_ 1351 (.iconst 2) 1 1352 := ⟨dL_law__1351, rfl⟩
theorem dL_law__1352 : decode cL_law_ 1352 = .ok (.iadd, 1) := by decide +kernel
theorem eL_law__1352 : zD KL_law_ 1352 (.iadd) 1 1353 := ⟨dL_law__1352, rfl⟩
theorem dL_law__1353 : decode cL_law_ 1353 = .ok (.iaload, 1) := by decide +kernel
theorem eL_law__1353 : zD KL_law_ 1353 (.iaload) 1 1354 := ⟨dL_law__1353, rfl⟩
theorem dL_law__1354 : decode cL_law_ 1354 = .ok (.aload_n 3, 1) := by decide +kernel
theorem eL_law__1354 : zD KL_law_ 1354 (.aload_n 3) 1 1355 := ⟨dL_law__1354, rfl⟩
theorem dL_law__1355 : decode cL_law_ 1355 = .ok (.invokestatic 220, 3) := by decide +kernel
theorem eL_law__1355 : zD KL_law_ 1355 (.invokestatic 220) 3 1358 := ⟨dL_law__1355, rfl⟩
theorem dL_law__1358 : decode cL_law_ 1358 = .ok (.istore 5, 2) := by decide +kernel
theorem eL_law__1358 : zD KL_law_ 1358 (.istore 5) 2 1360 := ⟨dL_law__1358, rfl⟩
theorem dL_law__1360 : decode cL_law_ 1360 = .ok (.aload_n 2, 1) := by decide +kernel
theorem eL_law__1360 : zD KL_law_ 1360 (.aload_n 2) 1 1361 := ⟨dL_law__1360, rfl⟩
theorem dL_law__1361 : decode cL_law_ 1361 = .ok (.aload_n 0, 1) := by decide +kernel
theorem eL_law__1361 : zD KL_law_ 1361 (.aload_n 0) 1 1362 := ⟨dL_law__1361, rfl⟩
theorem dL_law__1362 : decode cL_law_ 1362 = .ok (.iload 4, 2) := by decide +kernel
theorem eL_law__1362 : zD KL_law_ 1362 (.iload 4) 2 1364 := ⟨dL_law__1362, rfl⟩
theorem dL_law__1364 : decode cL_law_ 1364 = .ok (.iconst 1, 1) := by decide +kernel
theorem eL_law__1364 : zD KL_law_ 1364 (.iconst 1) 1 1365 := ⟨dL_law__1364, rfl⟩
theorem dL_law__1365 : decode cL_law_ 1365 = .ok (.iadd, 1) := by decide +kernel
theorem eL_law__1365 : zD KL_law_ 1365 (.iadd) 1 1366 := ⟨dL_law__1365, rfl⟩
theorem dL_law__1366 : decode cL_law_ 1366 = .ok (.iaload, 1) := by decide +kernel
theorem eL_law__1366 : zD KL_law_ 1366 (.iaload) 1 1367 := ⟨dL_law__1366, rfl⟩
theorem dL_law__1367 : decode cL_law_ 1367 = .ok (.aload_n 0, 1) := by decide +kernel
theorem eL_law__1367 : zD KL_law_ 1367 (.aload_n 0) 1 1368 := ⟨dL_law__1367, rfl⟩
theorem dL_law__1368 : decode cL_law_ 1368 = .ok (.iload 4, 2) := by decide +kernel
theorem eL_law__1368 : zD KL_law_ 1368 (.iload 4) 2 1370 := ⟨dL_law__1368, rfl⟩
theorem dL_law__1370 : decode cL_law_ 1370 = .ok (.iconst 2, 1) := by decide +kernel
theorem eL_law__1370 : zD KL_law_ 1370 (.iconst 2) 1 1371 := ⟨dL_law__1370, rfl⟩
theorem dL_law__1371 : decode cL_law_ 1371 = .ok (.iadd, 1) := by decide +kernel
theorem eL_law__1371 : zD KL_law_ 1371 (.iadd) 1 1372 := ⟨dL_law__1371, rfl⟩
theorem dL_law__1372 : decode cL_law_ 1372 = .ok (.iaload, 1) := by decide +kernel
theorem eL_law__1372 : zD KL_law_ 1372 (.iaload) 1 1373 := ⟨dL_law__1372, rfl⟩
theorem dL_law__1373 : decode cL_law_ 1373 = .ok (.invokevirtual 222, 3) := by decide +kernel
theorem eL_law__1373 : zD KL_law_ 1373 (.invokevirtual 222) 3 1376 := ⟨dL_law__1373, rfl⟩
theorem dL_law__1376 : decode cL_law_ 1376 = .ok (.istore 6, 2) := by decide +kernel
theorem eL_law__1376 : zD KL_law_ 1376 (.istore 6) 2 1378 := ⟨dL_law__1376, rfl⟩
theorem dL_law__1378 : decode cL_law_ 1378 = .ok (.aload_n 2, 1) := by decide +kernel
theorem eL_law__1378 : zD KL_law_ 1378 (.aload_n 2) 1 1379 := ⟨dL_law__1378, rfl⟩
theorem dL_law__1379 : decode cL_law_ 1379 = .ok (.invokevirtual 170, 3) := by decide +kernel
theorem eL_law__1379 : zD KL_law_ 1379 (.invokevirtual 170) 3 1382 := ⟨dL_law__1379, rfl⟩
theorem dL_law__1382 : decode cL_law_ 1382 = .ok (.iload 5, 2) := by decide +kernel
theorem eL_law__1382 : zD KL_law_ 1382 (.iload 5) 2 1384 := ⟨dL_law__1382, rfl⟩
theorem dL_law__1384 : decode cL_law_ 1384 = .ok (.if_icmp .eq 5, 3) := by decide +kernel
theorem eL_law__1384 : zD KL_law_ 1384 (.if_icmp .eq 5) 3 1387 := ⟨dL_law__1384, rfl⟩
theorem dL_law__1387 : decode cL_law_ 1387 = .ok (.iconst 0, 1) := by decide +kernel
theorem eL_law__1387 : zD KL_law_ 1387 (.iconst 0) 1 1388 := ⟨dL_law__1387, rfl⟩
theorem dL_law__1388 : decode cL_law_ 1388 = .ok (.ireturn, 1) := by decide +kernel
theorem eL_law__1388 : zD KL_law_ 1388 (.ireturn) 1 1389 := ⟨dL_law__1388, rfl⟩
theorem dL_law__1389 : decode cL_law_ 1389 = .ok (.iload 5, 2) := by decide +kernel
theorem eL_law__1389 : zD KL_law_ 1389 (.iload 5) 2 1391 := ⟨dL_law__1389, rfl⟩
theorem dL_law__1391 : decode cL_law_ 1391 = .ok (.ifCond .ne 15, 3) := by decide +kernel
theorem eL_law__1391 : zD KL_law_ 1391 (.ifCond .ne 15) 3 1394 := ⟨dL_law__1391, rfl⟩
theorem dL_law__1394 : decode cL_law_ 1394 = .ok (.aload_n 3, 1) := by decide +kernel
theorem eL_law__1394 : zD KL_law_ 1394 (.aload_n 3) 1 1395 := ⟨dL_law__1394, rfl⟩
theorem dL_law__1395 : decode cL_law_ 1395 = .ok (.iconst 0, 1) := by decide +kernel
theorem eL_law__1395 : zD KL_law_ 1395 (.iconst 0) 1 1396 := ⟨dL_law__1395, rfl⟩
theorem dL_law__1396 : decode cL_law_ 1396 = .ok (.laload, 1) := by decide +kernel
theorem eL_law__1396 : zD KL_law_ 1396 (.laload) 1 1397 := ⟨dL_law__1396, rfl⟩
theorem dL_law__1397 : decode cL_law_ 1397 = .ok (.iload 6, 2) := by decide +kernel
theorem eL_law__1397 : zD KL_law_ 1397 (.iload 6) 2 1399 := ⟨dL_law__1397, rfl⟩
theorem dL_law__1399 : decode cL_law_ 1399 = .ok (.i2l, 1) := by decide +kernel
theorem eL_law__1399 : zD KL_law_ 1399 (.i2l) 1 1400 := ⟨dL_law__1399, rfl⟩
theorem dL_law__1400 : decode cL_law_ 1400 = .ok (.lcmp, 1) := by decide +kernel
theorem eL_law__1400 : zD KL_law_ 1400 (.lcmp) 1 1401 := ⟨dL_law__1400, rfl⟩
theorem dL_law__1401 : decode cL_law_ 1401 = .ok (.ifCond .eq 5, 3) := by decide +kernel
theorem eL_law__1401 : zD KL_law_ 1401 (.ifCond .eq 5) 3 1404 := ⟨dL_law__1401, rfl⟩
theorem dL_law__1404 : decode cL_law_ 1404 = .ok (.iconst 0, 1) := by decide +kernel
theorem eL_law__1404 : zD KL_law_ 1404 (.iconst 0) 1 1405 := ⟨dL_law__1404, rfl⟩
theorem dL_law__1405 : decode cL_law_ 1405 = .ok (.ireturn, 1) := by decide +kernel
theorem eL_law__1405 : zD KL_law_ 1405 (.ireturn) 1 1406 := ⟨dL_law__1405, rfl⟩
theorem dL_law__1406 : decode cL_law_ 1406 = .ok (.goto 1946, 3) := by decide +kernel
theorem eL_law__1406 : zD KL_law_ 1406 (.goto 1946) 3 1409 := ⟨dL_law__1406, rfl⟩
theorem dL_law__1409 : decode cL_law_ 1409 = .ok (.aload_n 1, 1) := by decide +kernel
theorem eL_law__1409 : zD KL_law_ 1409 (.aload_n 1) 1 1410 := ⟨dL_law__1409, rfl⟩
theorem dL_law__1410 : decode cL_law_ 1410 = .ok (.aload_n 0, 1) := by decide +kernel
theorem eL_law__1410 : zD KL_law_ 1410 (.aload_n 0) 1 1411 := ⟨dL_law__1410, rfl⟩
theorem dL_law__1411 : decode cL_law_ 1411 = .ok (.iload 4, 2) := by decide +kernel
theorem eL_law__1411 : zD KL_law_ 1411 (.iload 4) 2 1413 := ⟨dL_law__1411, rfl⟩
theorem dL_law__1413 : decode cL_law_ 1413 = .ok (.iconst 1, 1) := by decide +kernel
theorem eL_law__1413 : zD KL_law_ 1413 (.iconst 1) 1 1414 := ⟨dL_law__1413, rfl⟩
theorem dL_law__1414 : decode cL_law_ 1414 = .ok (.iadd, 1) := by decide +kernel
theorem eL_law__1414 : zD KL_law_ 1414 (.iadd) 1 1415 := ⟨dL_law__1414, rfl⟩
theorem dL_law__1415 : decode cL_law_ 1415 = .ok (.iaload, 1) := by decide +kernel
theorem eL_law__1415 : zD KL_law_ 1415 (.iaload) 1 1416 := ⟨dL_law__1415, rfl⟩
theorem dL_law__1416 : decode cL_law_ 1416 = .ok (.aload_n 0, 1) := by decide +kernel
theorem eL_law__1416 : zD KL_law_ 1416 (.aload_n 0) 1 1417 := ⟨dL_law__1416, rfl⟩
theorem dL_law__1417 : decode cL_law_ 1417 = .ok (.iload 4, 2) := by decide +kernel
theorem eL_law__1417 : zD KL_law_ 1417 (.iload 4) 2 1419 := ⟨dL_law__1417, rfl⟩
theorem dL_law__1419 : decode cL_law_ 1419 = .ok (.iconst 2, 1) := by decide +kernel
theorem eL_law__1419 : zD KL_law_ 1419 (.iconst 2) 1 1420 := ⟨dL_law__1419, rfl⟩
theorem dL_law__1420 : decode cL_law_ 1420 = .ok (.iadd, 1) := by decide +kernel
theorem eL_law__1420 : zD KL_law_ 1420 (.iadd) 1 1421 := ⟨dL_law__1420, rfl⟩
theorem dL_law__1421 : decode cL_law_ 1421 = .ok (.iaload, 1) := by decide +kernel
theorem eL_law__1421 : zD KL_law_ 1421 (.iaload) 1 1422 := ⟨dL_law__1421, rfl⟩
theorem dL_law__1422 : decode cL_law_ 1422 = .ok (.aload_n 3, 1) := by decide +kernel
theorem eL_law__1422 : zD KL_law_ 1422 (.aload_n 3) 1 1423 := ⟨dL_law__1422, rfl⟩
theorem dL_law__1423 : decode cL_law_ 1423 = .ok (.invokestatic 223, 3) := by decide +kernel
theorem eL_law__1423 : zD KL_law_ 1423 (.invokestatic 223) 3 1426 := ⟨dL_law__1423, rfl⟩
theorem dL_law__1426 : decode cL_law_ 1426 = .ok (.istore 5, 2) := by decide +kernel
theorem eL_law__1426 : zD KL_law_ 1426 (.istore 5) 2 1428 := ⟨dL_law__1426, rfl⟩
theorem dL_law__1428 : decode cL_law_ 1428 = .ok (.aload_n 2, 1) := by decide +kernel
theorem eL_law__1428 : zD KL_law_ 1428 (.aload_n 2) 1 1429 := ⟨dL_law__1428, rfl⟩
theorem dL_law__1429 : decode cL_law_ 1429 = .ok (.aload_n 0, 1) := by decide +kernel
theorem eL_law__1429 : zD KL_law_ 1429 (.aload_n 0) 1 1430 := ⟨dL_law__1429, rfl⟩
theorem dL_law__1430 : decode cL_law_ 1430 = .ok (.iload 4, 2) := by decide +kernel
theorem eL_law__1430 : zD KL_law_ 1430 (.iload 4) 2 1432 := ⟨dL_law__1430, rfl⟩
theorem dL_law__1432 : decode cL_law_ 1432 = .ok (.iconst 1, 1) := by decide +kernel
theorem eL_law__1432 : zD KL_law_ 1432 (.iconst 1) 1 1433 := ⟨dL_law__1432, rfl⟩
theorem dL_law__1433 : decode cL_law_ 1433 = .ok (.iadd, 1) := by decide +kernel
theorem eL_law__1433 : zD KL_law_ 1433 (.iadd) 1 1434 := ⟨dL_law__1433, rfl⟩
theorem dL_law__1434 : decode cL_law_ 1434 = .ok (.iaload, 1) := by decide +kernel
theorem eL_law__1434 : zD KL_law_ 1434 (.iaload) 1 1435 := ⟨dL_law__1434, rfl⟩
theorem dL_law__1435 : decode cL_law_ 1435 = .ok (.aload_n 0, 1) := by decide +kernel
theorem eL_law__1435 : zD KL_law_ 1435 (.aload_n 0) 1 1436 := ⟨dL_law__1435, rfl⟩
theorem dL_law__1436 : decode cL_law_ 1436 = .ok (.iload 4, 2) := by decide +kernel
theorem eL_law__1436 : zD KL_law_ 1436 (.iload 4) 2 1438 := ⟨dL_law__1436, rfl⟩
theorem dL_law__1438 : decode cL_law_ 1438 = .ok (.iconst 2, 1) := by decide +kernel
theorem eL_law__1438 : zD KL_law_ 1438 (.iconst 2) 1 1439 := ⟨dL_law__1438, rfl⟩
theorem dL_law__1439 : decode cL_law_ 1439 = .ok (.iadd, 1) := by decide +kernel
theorem eL_law__1439 : zD KL_law_ 1439 (.iadd) 1 1440 := ⟨dL_law__1439, rfl⟩
