theorem dc_L_law_968 : decode bc_L_law 968 = .ok (.ireturn, 1) := by decide +kernel
theorem dc_L_law_969 : decode bc_L_law 969 = .ok (.iload 5, 2) := by decide +kernel
theorem dc_L_law_971 : decode bc_L_law 971 = .ok (.ifCond .ne 15, 3) := by decide +kernel
theorem dc_L_law_974 : decode bc_L_law 974 = .ok (.aload_n 3, 1) := by decide +kernel
theorem dc_L_law_975 : decode bc_L_law 975 = .ok (.iconst 0, 1) := by decide +kernel
theorem dc_L_law_976 : decode bc_L_law 976 = .ok (.laload, 1) := by decide +kernel
theorem dc_L_law_977 : decode bc_L_law 977 = .ok (.iload 6, 2) := by decide +kernel
theorem dc_L_law_979 : decode bc_L_law 979 = .ok (.i2l, 1) := by decide +kernel
theorem dc_L_law_980 : decode bc_L_law 980 = .ok (.lcmp, 1) := by decide +kernel
theorem dc_L_law_981 : decode bc_L_law 981 = .ok (.ifCond .eq 5, 3) := by decide +kernel
theorem dc_L_law_984 : decode bc_L_law 984 = .ok (.iconst 0, 1) := by decide +kernel
theorem dc_L_law_985 : decode bc_L_law 985 = .ok (.ireturn, 1) := by decide +kernel
theorem dc_L_law_986 : decode bc_L_law 986 = .ok (.goto 263, 3) := by decide +kernel
theorem dc_L_law_989 : decode bc_L_law 989 = .ok (.aload_n 1, 1) := by decide +kernel
theorem dc_L_law_990 : decode bc_L_law 990 = .ok (.aload_n 0, 1) := by decide +kernel
theorem dc_L_law_991 : decode bc_L_law 991 = .ok (.iload 4, 2) := by decide +kernel
theorem dc_L_law_993 : decode bc_L_law 993 = .ok (.iconst 1, 1) := by decide +kernel
theorem dc_L_law_994 : decode bc_L_law 994 = .ok (.iadd, 1) := by decide +kernel
theorem dc_L_law_995 : decode bc_L_law 995 = .ok (.iaload, 1) := by decide +kernel
theorem dc_L_law_996 : decode bc_L_law 996 = .ok (.aload_n 0, 1) := by decide +kernel
theorem dc_L_law_997 : decode bc_L_law 997 = .ok (.iload 4, 2) := by decide +kernel
theorem dc_L_law_999 : decode bc_L_law 999 = .ok (.iconst 2, 1) := by decide +kernel
theorem dc_L_law_1000 : decode bc_L_law 1000 = .ok (.iadd, 1) := by decide +kernel
theorem dc_L_law_1001 : decode bc_L_law 1001 = .ok (.iaload, 1) := by decide +kernel
theorem dc_L_law_1002 : decode bc_L_law 1002 = .ok (.aload_n 3, 1) := by decide +kernel
theorem dc_L_law_1003 : decode bc_L_law 1003 = .ok (.invokestatic 128, 3) := by decide +kernel
theorem dc_L_law_1006 : decode bc_L_law 1006 = .ok (.istore 5, 2) := by decide +kernel
theorem dc_L_law_1008 : decode bc_L_law 1008 = .ok (.aload_n 2, 1) := by decide +kernel
theorem dc_L_law_1009 : decode bc_L_law 1009 = .ok (.aload_n 0, 1) := by decide +kernel
theorem dc_L_law_1010 : decode bc_L_law 1010 = .ok (.iload 4, 2) := by decide +kernel
theorem dc_L_law_1012 : decode bc_L_law 1012 = .ok (.iconst 1, 1) := by decide +kernel
theorem dc_L_law_1013 : decode bc_L_law 1013 = .ok (.iadd, 1) := by decide +kernel
theorem dc_L_law_1014 : decode bc_L_law 1014 = .ok (.iaload, 1) := by decide +kernel
theorem dc_L_law_1015 : decode bc_L_law 1015 = .ok (.aload_n 0, 1) := by decide +kernel
theorem dc_L_law_1016 : decode bc_L_law 1016 = .ok (.iload 4, 2) := by decide +kernel
theorem dc_L_law_1018 : decode bc_L_law 1018 = .ok (.iconst 2, 1) := by decide +kernel
theorem dc_L_law_1019 : decode bc_L_law 1019 = .ok (.iadd, 1) := by decide +kernel
theorem dc_L_law_1020 : decode bc_L_law 1020 = .ok (.iaload, 1) := by decide +kernel
theorem dc_L_law_1021 : decode bc_L_law 1021 = .ok (.invokevirtual 130, 3) := by decide +kernel
theorem dc_L_law_1024 : decode bc_L_law 1024 = .ok (.lstore 6, 2) := by decide +kernel
theorem dc_L_law_1026 : decode bc_L_law 1026 = .ok (.aload_n 2, 1) := by decide +kernel
theorem dc_L_law_1027 : decode bc_L_law 1027 = .ok (.invokevirtual 83, 3) := by decide +kernel
theorem dc_L_law_1030 : decode bc_L_law 1030 = .ok (.iload 5, 2) := by decide +kernel
theorem dc_L_law_1032 : decode bc_L_law 1032 = .ok (.if_icmp .eq 5, 3) := by decide +kernel
theorem dc_L_law_1035 : decode bc_L_law 1035 = .ok (.iconst 0, 1) := by decide +kernel
theorem dc_L_law_1036 : decode bc_L_law 1036 = .ok (.ireturn, 1) := by decide +kernel
theorem dc_L_law_1037 : decode bc_L_law 1037 = .ok (.iload 5, 2) := by decide +kernel
theorem dc_L_law_1039 : decode bc_L_law 1039 = .ok (.ifCond .ne 14, 3) := by decide +kernel
theorem dc_L_law_1042 : decode bc_L_law 1042 = .ok (.aload_n 3, 1) := by decide +kernel
theorem dc_L_law_1043 : decode bc_L_law 1043 = .ok (.iconst 0, 1) := by decide +kernel
theorem dc_L_law_1044 : decode bc_L_law 1044 = .ok (.laload, 1) := by decide +kernel
theorem dc_L_law_1045 : decode bc_L_law 1045 = .ok (.lload 6, 2) := by decide +kernel
theorem dc_L_law_1047 : decode bc_L_law 1047 = .ok (.lcmp, 1) := by decide +kernel
theorem dc_L_law_1048 : decode bc_L_law 1048 = .ok (.ifCond .eq 5, 3) := by decide +kernel
theorem dc_L_law_1051 : decode bc_L_law 1051 = .ok (.iconst 0, 1) := by decide +kernel
theorem dc_L_law_1052 : decode bc_L_law 1052 = .ok (.ireturn, 1) := by decide +kernel
theorem dc_L_law_1053 : decode bc_L_law 1053 = .ok (.goto 196, 3) := by decide +kernel
theorem dc_L_law_1056 : decode bc_L_law 1056 = .ok (.aload_n 1, 1) := by decide +kernel
theorem dc_L_law_1057 : decode bc_L_law 1057 = .ok (.aload_n 0, 1) := by decide +kernel
theorem dc_L_law_1058 : decode bc_L_law 1058 = .ok (.iload 4, 2) := by decide +kernel
theorem dc_L_law_1060 : decode bc_L_law 1060 = .ok (.iconst 1, 1) := by decide +kernel
theorem dc_L_law_1061 : decode bc_L_law 1061 = .ok (.iadd, 1) := by decide +kernel
theorem dc_L_law_1062 : decode bc_L_law 1062 = .ok (.iaload, 1) := by decide +kernel
theorem dc_L_law_1063 : decode bc_L_law 1063 = .ok (.aload_n 3, 1) := by decide +kernel
theorem dc_L_law_1064 : decode bc_L_law 1064 = .ok (.invokestatic 131, 3) := by decide +kernel
theorem dc_L_law_1067 : decode bc_L_law 1067 = .ok (.istore 5, 2) := by decide +kernel
theorem dc_L_law_1069 : decode bc_L_law 1069 = .ok (.aload_n 2, 1) := by decide +kernel
theorem dc_L_law_1070 : decode bc_L_law 1070 = .ok (.aload_n 0, 1) := by decide +kernel
theorem dc_L_law_1071 : decode bc_L_law 1071 = .ok (.iload 4, 2) := by decide +kernel
theorem dc_L_law_1073 : decode bc_L_law 1073 = .ok (.iconst 1, 1) := by decide +kernel
theorem dc_L_law_1074 : decode bc_L_law 1074 = .ok (.iadd, 1) := by decide +kernel
theorem dc_L_law_1075 : decode bc_L_law 1075 = .ok (.iaload, 1) := by decide +kernel
theorem dc_L_law_1076 : decode bc_L_law 1076 = .ok (.invokevirtual 133, 3) := by decide +kernel
theorem dc_L_law_1079 : decode bc_L_law 1079 = .ok (.istore 6, 2) := by decide +kernel
theorem dc_L_law_1081 : decode bc_L_law 1081 = .ok (.aload_n 2, 1) := by decide +kernel
theorem dc_L_law_1082 : decode bc_L_law 1082 = .ok (.invokevirtual 83, 3) := by decide +kernel
theorem dc_L_law_1085 : decode bc_L_law 1085 = .ok (.iload 5, 2) := by decide +kernel
theorem dc_L_law_1087 : decode bc_L_law 1087 = .ok (.if_icmp .eq 5, 3) := by decide +kernel
theorem dc_L_law_1090 : decode bc_L_law 1090 = .ok (.iconst 0, 1) := by decide +kernel
theorem dc_L_law_1091 : decode bc_L_law 1091 = .ok (.ireturn, 1) := by decide +kernel
theorem dc_L_law_1092 : decode bc_L_law 1092 = .ok (.iload 5, 2) := by decide +kernel
theorem dc_L_law_1094 : decode bc_L_law 1094 = .ok (.ifCond .ne 15, 3) := by decide +kernel
theorem dc_L_law_1097 : decode bc_L_law 1097 = .ok (.aload_n 3, 1) := by decide +kernel
theorem dc_L_law_1098 : decode bc_L_law 1098 = .ok (.iconst 0, 1) := by decide +kernel
theorem dc_L_law_1099 : decode bc_L_law 1099 = .ok (.laload, 1) := by decide +kernel
theorem dc_L_law_1100 : decode bc_L_law 1100 = .ok (.iload 6, 2) := by decide +kernel
theorem dc_L_law_1102 : decode bc_L_law 1102 = .ok (.i2l, 1) := by decide +kernel
theorem dc_L_law_1103 : decode bc_L_law 1103 = .ok (.lcmp, 1) := by decide +kernel
theorem dc_L_law_1104 : decode bc_L_law 1104 = .ok (.ifCond .eq 5, 3) := by decide +kernel
theorem dc_L_law_1107 : decode bc_L_law 1107 = .ok (.iconst 0, 1) := by decide +kernel
theorem dc_L_law_1108 : decode bc_L_law 1108 = .ok (.ireturn, 1) := by decide +kernel
theorem dc_L_law_1109 : decode bc_L_law 1109 = .ok (.goto 140, 3) := by decide +kernel
theorem dc_L_law_1112 : decode bc_L_law 1112 = .ok (.aload_n 1, 1) := by decide +kernel
theorem dc_L_law_1113 : decode bc_L_law 1113 = .ok (.aload_n 0, 1) := by decide +kernel
theorem dc_L_law_1114 : decode bc_L_law 1114 = .ok (.iload 4, 2) := by decide +kernel
