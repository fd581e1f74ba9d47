theorem dL_law_988 : decode cL_law 988 = .ok (.iaload, 1) := zq_0 zo_46 zkL_law_960 28 rfl rfl
theorem dL_law_989 : decode cL_law 989 = .ok (.aload_n 0, 1) := zq_0 zo_42 zkL_law_960 29 rfl rfl
theorem dL_law_990 : decode cL_law 990 = .ok (.iload_n 3, 1) := zq_0 zo_29 zkL_law_960 30 rfl rfl
theorem dL_law_991 : decode cL_law 991 = .ok (.iconst 5, 1) := zq_0 zo_8 zkL_law_960 31 rfl rfl
theorem zkL_law_992 : zqc cL_law 992 [96, 46, 182, 0, 86, 87, 167, 3, 70, 43, 42, 29, 4, 96, 46, 42, 29, 5, 96, 46, 42, 29, 6, 96, 46, 182, 0, 87, 87, 44, 42, 29, 4, 96] := zq_of 34 (by decide +kernel)
theorem dL_law_992 : decode cL_law 992 = .ok (.iadd, 1) := zq_0 zo_96 zkL_law_992 0 rfl rfl
theorem dL_law_993 : decode cL_law 993 = .ok (.iaload, 1) := zq_0 zo_46 zkL_law_992 1 rfl rfl
theorem dL_law_994 : decode cL_law 994 = .ok (.invokevirtual 86, 3) := zq_2 zo_182 zkL_law_992 2 rfl rfl 0 86 rfl rfl _ rfl
theorem dL_law_997 : decode cL_law 997 = .ok (.pop, 1) := zq_0 zo_87 zkL_law_992 5 rfl rfl
theorem dL_law_998 : decode cL_law 998 = .ok (.goto 838, 3) := zq_2s zo_167 zkL_law_992 6 rfl rfl 3 70 rfl rfl _ (by decide +kernel)
theorem dL_law_1001 : decode cL_law 1001 = .ok (.aload_n 1, 1) := zq_0 zo_43 zkL_law_992 9 rfl rfl
theorem dL_law_1002 : decode cL_law 1002 = .ok (.aload_n 0, 1) := zq_0 zo_42 zkL_law_992 10 rfl rfl
theorem dL_law_1003 : decode cL_law 1003 = .ok (.iload_n 3, 1) := zq_0 zo_29 zkL_law_992 11 rfl rfl
theorem dL_law_1004 : decode cL_law 1004 = .ok (.iconst 1, 1) := zq_0 zo_4 zkL_law_992 12 rfl rfl
theorem dL_law_1005 : decode cL_law 1005 = .ok (.iadd, 1) := zq_0 zo_96 zkL_law_992 13 rfl rfl
theorem dL_law_1006 : decode cL_law 1006 = .ok (.iaload, 1) := zq_0 zo_46 zkL_law_992 14 rfl rfl
theorem dL_law_1007 : decode cL_law 1007 = .ok (.aload_n 0, 1) := zq_0 zo_42 zkL_law_992 15 rfl rfl
theorem dL_law_1008 : decode cL_law 1008 = .ok (.iload_n 3, 1) := zq_0 zo_29 zkL_law_992 16 rfl rfl
theorem dL_law_1009 : decode cL_law 1009 = .ok (.iconst 2, 1) := zq_0 zo_5 zkL_law_992 17 rfl rfl
theorem dL_law_1010 : decode cL_law 1010 = .ok (.iadd, 1) := zq_0 zo_96 zkL_law_992 18 rfl rfl
theorem dL_law_1011 : decode cL_law 1011 = .ok (.iaload, 1) := zq_0 zo_46 zkL_law_992 19 rfl rfl
theorem dL_law_1012 : decode cL_law 1012 = .ok (.aload_n 0, 1) := zq_0 zo_42 zkL_law_992 20 rfl rfl
theorem dL_law_1013 : decode cL_law 1013 = .ok (.iload_n 3, 1) := zq_0 zo_29 zkL_law_992 21 rfl rfl
theorem dL_law_1014 : decode cL_law 1014 = .ok (.iconst 3, 1) := zq_0 zo_6 zkL_law_992 22 rfl rfl
theorem dL_law_1015 : decode cL_law 1015 = .ok (.iadd, 1) := zq_0 zo_96 zkL_law_992 23 rfl rfl
theorem dL_law_1016 : decode cL_law 1016 = .ok (.iaload, 1) := zq_0 zo_46 zkL_law_992 24 rfl rfl
theorem dL_law_1017 : decode cL_law 1017 = .ok (.invokevirtual 87, 3) := zq_2 zo_182 zkL_law_992 25 rfl rfl 0 87 rfl rfl _ rfl
theorem dL_law_1020 : decode cL_law 1020 = .ok (.pop, 1) := zq_0 zo_87 zkL_law_992 28 rfl rfl
theorem dL_law_1021 : decode cL_law 1021 = .ok (.aload_n 2, 1) := zq_0 zo_44 zkL_law_992 29 rfl rfl
theorem dL_law_1022 : decode cL_law 1022 = .ok (.aload_n 0, 1) := zq_0 zo_42 zkL_law_992 30 rfl rfl
theorem dL_law_1023 : decode cL_law 1023 = .ok (.iload_n 3, 1) := zq_0 zo_29 zkL_law_992 31 rfl rfl
theorem zkL_law_1024 : zqc cL_law 1024 [4, 96, 46, 42, 29, 5, 96, 46, 42, 29, 6, 96, 46, 182, 0, 90, 87, 167, 3, 27, 43, 42, 29, 4, 96, 46, 42, 29, 5, 96, 46, 42, 29, 6] := zq_of 34 (by decide +kernel)
theorem dL_law_1024 : decode cL_law 1024 = .ok (.iconst 1, 1) := zq_0 zo_4 zkL_law_1024 0 rfl rfl
theorem dL_law_1025 : decode cL_law 1025 = .ok (.iadd, 1) := zq_0 zo_96 zkL_law_1024 1 rfl rfl
theorem dL_law_1026 : decode cL_law 1026 = .ok (.iaload, 1) := zq_0 zo_46 zkL_law_1024 2 rfl rfl
theorem dL_law_1027 : decode cL_law 1027 = .ok (.aload_n 0, 1) := zq_0 zo_42 zkL_law_1024 3 rfl rfl
theorem dL_law_1028 : decode cL_law 1028 = .ok (.iload_n 3, 1) := zq_0 zo_29 zkL_law_1024 4 rfl rfl
theorem dL_law_1029 : decode cL_law 1029 = .ok (.iconst 2, 1) := zq_0 zo_5 zkL_law_1024 5 rfl rfl
theorem dL_law_1030 : decode cL_law 1030 = .ok (.iadd, 1) := zq_0 zo_96 zkL_law_1024 6 rfl rfl
theorem dL_law_1031 : decode cL_law 1031 = .ok (.iaload, 1) := zq_0 zo_46 zkL_law_1024 7 rfl rfl
theorem dL_law_1032 : decode cL_law 1032 = .ok (.aload_n 0, 1) := zq_0 zo_42 zkL_law_1024 8 rfl rfl
theorem dL_law_1033 : decode cL_law 1033 = .ok (.iload_n 3, 1) := zq_0 zo_29 zkL_law_1024 9 rfl rfl
theorem dL_law_1034 : decode cL_law 1034 = .ok (.iconst 3, 1) := zq_0 zo_6 zkL_law_1024 10 rfl rfl
theorem dL_law_1035 : decode cL_law 1035 = .ok (.iadd, 1) := zq_0 zo_96 zkL_law_1024 11 rfl rfl
theorem dL_law_1036 : decode cL_law 1036 = .ok (.iaload, 1) := zq_0 zo_46 zkL_law_1024 12 rfl rfl
theorem dL_law_1037 : decode cL_law 1037 = .ok (.invokevirtual 90, 3) := zq_2 zo_182 zkL_law_1024 13 rfl rfl 0 90 rfl rfl _ rfl
theorem dL_law_1040 : decode cL_law 1040 = .ok (.pop, 1) := zq_0 zo_87 zkL_law_1024 16 rfl rfl
theorem dL_law_1041 : decode cL_law 1041 = .ok (.goto 795, 3) := zq_2s zo_167 zkL_law_1024 17 rfl rfl 3 27 rfl rfl _ (by decide +kernel)
theorem dL_law_1044 : decode cL_law 1044 = .ok (.aload_n 1, 1) := zq_0 zo_43 zkL_law_1024 20 rfl rfl
theorem dL_law_1045 : decode cL_law 1045 = .ok (.aload_n 0, 1) := zq_0 zo_42 zkL_law_1024 21 rfl rfl
theorem dL_law_1046 : decode cL_law 1046 = .ok (.iload_n 3, 1) := zq_0 zo_29 zkL_law_1024 22 rfl rfl
theorem dL_law_1047 : decode cL_law 1047 = .ok (.iconst 1, 1) := zq_0 zo_4 zkL_law_1024 23 rfl rfl
theorem dL_law_1048 : decode cL_law 1048 = .ok (.iadd, 1) := zq_0 zo_96 zkL_law_1024 24 rfl rfl
theorem dL_law_1049 : decode cL_law 1049 = .ok (.iaload, 1) := zq_0 zo_46 zkL_law_1024 25 rfl rfl
theorem dL_law_1050 : decode cL_law 1050 = .ok (.aload_n 0, 1) := zq_0 zo_42 zkL_law_1024 26 rfl rfl
theorem dL_law_1051 : decode cL_law 1051 = .ok (.iload_n 3, 1) := zq_0 zo_29 zkL_law_1024 27 rfl rfl
theorem dL_law_1052 : decode cL_law 1052 = .ok (.iconst 2, 1) := zq_0 zo_5 zkL_law_1024 28 rfl rfl
theorem dL_law_1053 : decode cL_law 1053 = .ok (.iadd, 1) := zq_0 zo_96 zkL_law_1024 29 rfl rfl
theorem dL_law_1054 : decode cL_law 1054 = .ok (.iaload, 1) := zq_0 zo_46 zkL_law_1024 30 rfl rfl
theorem dL_law_1055 : decode cL_law 1055 = .ok (.aload_n 0, 1) := zq_0 zo_42 zkL_law_1024 31 rfl rfl
theorem zkL_law_1056 : zqc cL_law 1056 [29, 6, 96, 46, 42, 29, 7, 96, 46, 182, 0, 91, 87, 44, 42, 29, 4, 96, 46, 42, 29, 5, 96, 46, 42, 29, 6, 96, 46, 42, 29, 7, 96, 46] := zq_of 34 (by decide +kernel)
theorem dL_law_1056 : decode cL_law 1056 = .ok (.iload_n 3, 1) := zq_0 zo_29 zkL_law_1056 0 rfl rfl
theorem dL_law_1057 : decode cL_law 1057 = .ok (.iconst 3, 1) := zq_0 zo_6 zkL_law_1056 1 rfl rfl
theorem dL_law_1058 : decode cL_law 1058 = .ok (.iadd, 1) := zq_0 zo_96 zkL_law_1056 2 rfl rfl
theorem dL_law_1059 : decode cL_law 1059 = .ok (.iaload, 1) := zq_0 zo_46 zkL_law_1056 3 rfl rfl
theorem dL_law_1060 : decode cL_law 1060 = .ok (.aload_n 0, 1) := zq_0 zo_42 zkL_law_1056 4 rfl rfl
theorem dL_law_1061 : decode cL_law 1061 = .ok (.iload_n 3, 1) := zq_0 zo_29 zkL_law_1056 5 rfl rfl
theorem dL_law_1062 : decode cL_law 1062 = .ok (.iconst 4, 1) := zq_0 zo_7 zkL_law_1056 6 rfl rfl
theorem dL_law_1063 : decode cL_law 1063 = .ok (.iadd, 1) := zq_0 zo_96 zkL_law_1056 7 rfl rfl
theorem dL_law_1064 : decode cL_law 1064 = .ok (.iaload, 1) := zq_0 zo_46 zkL_law_1056 8 rfl rfl
theorem dL_law_1065 : decode cL_law 1065 = .ok (.invokevirtual 91, 3) := zq_2 zo_182 zkL_law_1056 9 rfl rfl 0 91 rfl rfl _ rfl
theorem dL_law_1068 : decode cL_law 1068 = .ok (.pop, 1) := zq_0 zo_87 zkL_law_1056 12 rfl rfl
theorem dL_law_1069 : decode cL_law 1069 = .ok (.aload_n 2, 1) := zq_0 zo_44 zkL_law_1056 13 rfl rfl
theorem dL_law_1070 : decode cL_law 1070 = .ok (.aload_n 0, 1) := zq_0 zo_42 zkL_law_1056 14 rfl rfl
theorem dL_law_1071 : decode cL_law 1071 = .ok (.iload_n 3, 1) := zq_0 zo_29 zkL_law_1056 15 rfl rfl
theorem dL_law_1072 : decode cL_law 1072 = .ok (.iconst 1, 1) := zq_0 zo_4 zkL_law_1056 16 rfl rfl
theorem dL_law_1073 : decode cL_law 1073 = .ok (.iadd, 1) := zq_0 zo_96 zkL_law_1056 17 rfl rfl
theorem dL_law_1074 : decode cL_law 1074 = .ok (.iaload, 1) := zq_0 zo_46 zkL_law_1056 18 rfl rfl
theorem dL_law_1075 : decode cL_law 1075 = .ok (.aload_n 0, 1) := zq_0 zo_42 zkL_law_1056 19 rfl rfl
theorem dL_law_1076 : decode cL_law 1076 = .ok (.iload_n 3, 1) := zq_0 zo_29 zkL_law_1056 20 rfl rfl
theorem dL_law_1077 : decode cL_law 1077 = .ok (.iconst 2, 1) := zq_0 zo_5 zkL_law_1056 21 rfl rfl
theorem dL_law_1078 : decode cL_law 1078 = .ok (.iadd, 1) := zq_0 zo_96 zkL_law_1056 22 rfl rfl
theorem dL_law_1079 : decode cL_law 1079 = .ok (.iaload, 1) := zq_0 zo_46 zkL_law_1056 23 rfl rfl
theorem dL_law_1080 : decode cL_law 1080 = .ok (.aload_n 0, 1) := zq_0 zo_42 zkL_law_1056 24 rfl rfl
theorem dL_law_1081 : decode cL_law 1081 = .ok (.iload_n 3, 1) := zq_0 zo_29 zkL_law_1056 25 rfl rfl
theorem dL_law_1082 : decode cL_law 1082 = .ok (.iconst 3, 1) := zq_0 zo_6 zkL_law_1056 26 rfl rfl
theorem dL_law_1083 : decode cL_law 1083 = .ok (.iadd, 1) := zq_0 zo_96 zkL_law_1056 27 rfl rfl
theorem dL_law_1084 : decode cL_law 1084 = .ok (.iaload, 1) := zq_0 zo_46 zkL_law_1056 28 rfl rfl
theorem dL_law_1085 : decode cL_law 1085 = .ok (.aload_n 0, 1) := zq_0 zo_42 zkL_law_1056 29 rfl rfl
theorem dL_law_1086 : decode cL_law 1086 = .ok (.iload_n 3, 1) := zq_0 zo_29 zkL_law_1056 30 rfl rfl
theorem dL_law_1087 : decode cL_law 1087 = .ok (.iconst 4, 1) := zq_0 zo_7 zkL_law_1056 31 rfl rfl
theorem zkL_law_1088 : zqc cL_law 1088 [96, 46, 182, 0, 94, 87, 167, 2, 230, 43, 42, 29, 4, 96, 46, 42, 29, 5, 96, 46, 42, 29, 6, 96, 46, 182, 0, 95, 87, 44, 42, 29, 4, 96] := zq_of 34 (by decide +kernel)
theorem dL_law_1088 : decode cL_law 1088 = .ok (.iadd, 1) := zq_0 zo_96 zkL_law_1088 0 rfl rfl
theorem dL_law_1089 : decode cL_law 1089 = .ok (.iaload, 1) := zq_0 zo_46 zkL_law_1088 1 rfl rfl
theorem dL_law_1090 : decode cL_law 1090 = .ok (.invokevirtual 94, 3) := zq_2 zo_182 zkL_law_1088 2 rfl rfl 0 94 rfl rfl _ rfl
theorem dL_law_1093 : decode cL_law 1093 = .ok (.pop, 1) := zq_0 zo_87 zkL_law_1088 5 rfl rfl
theorem dL_law_1094 : decode cL_law 1094 = .ok (.goto 742, 3) := zq_2s zo_167 zkL_law_1088 6 rfl rfl 2 230 rfl rfl _ (by decide +kernel)
theorem dL_law_1097 : decode cL_law 1097 = .ok (.aload_n 1, 1) := zq_0 zo_43 zkL_law_1088 9 rfl rfl
theorem dL_law_1098 : decode cL_law 1098 = .ok (.aload_n 0, 1) := zq_0 zo_42 zkL_law_1088 10 rfl rfl
theorem dL_law_1099 : decode cL_law 1099 = .ok (.iload_n 3, 1) := zq_0 zo_29 zkL_law_1088 11 rfl rfl
theorem dL_law_1100 : decode cL_law 1100 = .ok (.iconst 1, 1) := zq_0 zo_4 zkL_law_1088 12 rfl rfl
theorem dL_law_1101 : decode cL_law 1101 = .ok (.iadd, 1) := zq_0 zo_96 zkL_law_1088 13 rfl rfl
theorem dL_law_1102 : decode cL_law 1102 = .ok (.iaload, 1) := zq_0 zo_46 zkL_law_1088 14 rfl rfl
theorem dL_law_1103 : decode cL_law 1103 = .ok (.aload_n 0, 1) := zq_0 zo_42 zkL_law_1088 15 rfl rfl
theorem dL_law_1104 : decode cL_law 1104 = .ok (.iload_n 3, 1) := zq_0 zo_29 zkL_law_1088 16 rfl rfl
theorem dL_law_1105 : decode cL_law 1105 = .ok (.iconst 2, 1) := zq_0 zo_5 zkL_law_1088 17 rfl rfl
theorem dL_law_1106 : decode cL_law 1106 = .ok (.iadd, 1) := zq_0 zo_96 zkL_law_1088 18 rfl rfl
theorem dL_law_1107 : decode cL_law 1107 = .ok (.iaload, 1) := zq_0 zo_46 zkL_law_1088 19 rfl rfl
theorem dL_law_1108 : decode cL_law 1108 = .ok (.aload_n 0, 1) := zq_0 zo_42 zkL_law_1088 20 rfl rfl
theorem dL_law_1109 : decode cL_law 1109 = .ok (.iload_n 3, 1) := zq_0 zo_29 zkL_law_1088 21 rfl rfl
theorem dL_law_1110 : decode cL_law 1110 = .ok (.iconst 3, 1) := zq_0 zo_6 zkL_law_1088 22 rfl rfl
theorem dL_law_1111 : decode cL_law 1111 = .ok (.iadd, 1) := zq_0 zo_96 zkL_law_1088 23 rfl rfl
theorem dL_law_1112 : decode cL_law 1112 = .ok (.iaload, 1) := zq_0 zo_46 zkL_law_1088 24 rfl rfl
theorem dL_law_1113 : decode cL_law 1113 = .ok (.invokevirtual 95, 3) := zq_2 zo_182 zkL_law_1088 25 rfl rfl 0 95 rfl rfl _ rfl
theorem dL_law_1116 : decode cL_law 1116 = .ok (.pop, 1) := zq_0 zo_87 zkL_law_1088 28 rfl rfl
theorem dL_law_1117 : decode cL_law 1117 = .ok (.aload_n 2, 1) := zq_0 zo_44 zkL_law_1088 29 rfl rfl
theorem dL_law_1118 : decode cL_law 1118 = .ok (.aload_n 0, 1) := zq_0 zo_42 zkL_law_1088 30 rfl rfl
theorem dL_law_1119 : decode cL_law 1119 = .ok (.iload_n 3, 1) := zq_0 zo_29 zkL_law_1088 31 rfl rfl
theorem zkL_law_1120 : zqc cL_law 1120 [4, 96, 46, 42, 29, 5, 96, 46, 42, 29, 6, 96, 46, 182, 0, 98, 87, 167, 2, 187, 43, 42, 29, 4, 96, 46, 42, 29, 5, 96, 46, 42, 29, 6] := zq_of 34 (by decide +kernel)
theorem dL_law_1120 : decode cL_law 1120 = .ok (.iconst 1, 1) := zq_0 zo_4 zkL_law_1120 0 rfl rfl
theorem dL_law_1121 : decode cL_law 1121 = .ok (.iadd, 1) := zq_0 zo_96 zkL_law_1120 1 rfl rfl
theorem dL_law_1122 : decode cL_law 1122 = .ok (.iaload, 1) := zq_0 zo_46 zkL_law_1120 2 rfl rfl
theorem dL_law_1123 : decode cL_law 1123 = .ok (.aload_n 0, 1) := zq_0 zo_42 zkL_law_1120 3 rfl rfl
theorem dL_law_1124 : decode cL_law 1124 = .ok (.iload_n 3, 1) := zq_0 zo_29 zkL_law_1120 4 rfl rfl
theorem dL_law_1125 : decode cL_law 1125 = .ok (.iconst 2, 1) := zq_0 zo_5 zkL_law_1120 5 rfl rfl
theorem dL_law_1126 : decode cL_law 1126 = .ok (.iadd, 1) := zq_0 zo_96 zkL_law_1120 6 rfl rfl
theorem dL_law_1127 : decode cL_law 1127 = .ok (.iaload, 1) := zq_0 zo_46 zkL_law_1120 7 rfl rfl
theorem dL_law_1128 : decode cL_law 1128 = .ok (.aload_n 0, 1) := zq_0 zo_42 zkL_law_1120 8 rfl rfl
theorem dL_law_1129 : decode cL_law 1129 = .ok (.iload_n 3, 1) := zq_0 zo_29 zkL_law_1120 9 rfl rfl
theorem dL_law_1130 : decode cL_law 1130 = .ok (.iconst 3, 1) := zq_0 zo_6 zkL_law_1120 10 rfl rfl
theorem dL_law_1131 : decode cL_law 1131 = .ok (.iadd, 1) := zq_0 zo_96 zkL_law_1120 11 rfl rfl
theorem dL_law_1132 : decode cL_law 1132 = .ok (.iaload, 1) := zq_0 zo_46 zkL_law_1120 12 rfl rfl
theorem dL_law_1133 : decode cL_law 1133 = .ok (.invokevirtual 98, 3) := zq_2 zo_182 zkL_law_1120 13 rfl rfl 0 98 rfl rfl _ rfl
theorem dL_law_1136 : decode cL_law 1136 = .ok (.pop, 1) := zq_0 zo_87 zkL_law_1120 16 rfl rfl
theorem dL_law_1137 : decode cL_law 1137 = .ok (.goto 699, 3) := zq_2s zo_167 zkL_law_1120 17 rfl rfl 2 187 rfl rfl _ (by decide +kernel)
theorem dL_law_1140 : decode cL_law 1140 = .ok (.aload_n 1, 1) := zq_0 zo_43 zkL_law_1120 20 rfl rfl
theorem dL_law_1141 : decode cL_law 1141 = .ok (.aload_n 0, 1) := zq_0 zo_42 zkL_law_1120 21 rfl rfl
theorem dL_law_1142 : decode cL_law 1142 = .ok (.iload_n 3, 1) := zq_0 zo_29 zkL_law_1120 22 rfl rfl
theorem dL_law_1143 : decode cL_law 1143 = .ok (.iconst 1, 1) := zq_0 zo_4 zkL_law_1120 23 rfl rfl
theorem dL_law_1144 : decode cL_law 1144 = .ok (.iadd, 1) := zq_0 zo_96 zkL_law_1120 24 rfl rfl
theorem dL_law_1145 : decode cL_law 1145 = .ok (.iaload, 1) := zq_0 zo_46 zkL_law_1120 25 rfl rfl
theorem dL_law_1146 : decode cL_law 1146 = .ok (.aload_n 0, 1) := zq_0 zo_42 zkL_law_1120 26 rfl rfl
theorem dL_law_1147 : decode cL_law 1147 = .ok (.iload_n 3, 1) := zq_0 zo_29 zkL_law_1120 27 rfl rfl
theorem dL_law_1148 : decode cL_law 1148 = .ok (.iconst 2, 1) := zq_0 zo_5 zkL_law_1120 28 rfl rfl
theorem dL_law_1149 : decode cL_law 1149 = .ok (.iadd, 1) := zq_0 zo_96 zkL_law_1120 29 rfl rfl
theorem dL_law_1150 : decode cL_law 1150 = .ok (.iaload, 1) := zq_0 zo_46 zkL_law_1120 30 rfl rfl
theorem dL_law_1151 : decode cL_law 1151 = .ok (.aload_n 0, 1) := zq_0 zo_42 zkL_law_1120 31 rfl rfl
theorem zkL_law_1152 : zqc cL_law 1152 [29, 6, 96, 46, 42, 29, 7, 96, 46, 153, 0, 7, 4, 167, 0, 4, 3, 182, 0, 99, 87, 44, 42, 29, 4, 96, 46, 42, 29, 5, 96, 46, 42, 29] := zq_of 34 (by decide +kernel)
theorem dL_law_1152 : decode cL_law 1152 = .ok (.iload_n 3, 1) := zq_0 zo_29 zkL_law_1152 0 rfl rfl
theorem dL_law_1153 : decode cL_law 1153 = .ok (.iconst 3, 1) := zq_0 zo_6 zkL_law_1152 1 rfl rfl
theorem dL_law_1154 : decode cL_law 1154 = .ok (.iadd, 1) := zq_0 zo_96 zkL_law_1152 2 rfl rfl
theorem dL_law_1155 : decode cL_law 1155 = .ok (.iaload, 1) := zq_0 zo_46 zkL_law_1152 3 rfl rfl
theorem dL_law_1156 : decode cL_law 1156 = .ok (.aload_n 0, 1) := zq_0 zo_42 zkL_law_1152 4 rfl rfl
theorem dL_law_1157 : decode cL_law 1157 = .ok (.iload_n 3, 1) := zq_0 zo_29 zkL_law_1152 5 rfl rfl
theorem dL_law_1158 : decode cL_law 1158 = .ok (.iconst 4, 1) := zq_0 zo_7 zkL_law_1152 6 rfl rfl
theorem dL_law_1159 : decode cL_law 1159 = .ok (.iadd, 1) := zq_0 zo_96 zkL_law_1152 7 rfl rfl
theorem dL_law_1160 : decode cL_law 1160 = .ok (.iaload, 1) := zq_0 zo_46 zkL_law_1152 8 rfl rfl
theorem dL_law_1161 : decode cL_law 1161 = .ok (.ifCond .eq 7, 3) := zq_2s zo_153 zkL_law_1152 9 rfl rfl 0 7 rfl rfl _ (by decide +kernel)
theorem dL_law_1164 : decode cL_law 1164 = .ok (.iconst 1, 1) := zq_0 zo_4 zkL_law_1152 12 rfl rfl
theorem dL_law_1165 : decode cL_law 1165 = .ok (.goto 4, 3) := zq_2s zo_167 zkL_law_1152 13 rfl rfl 0 4 rfl rfl _ (by decide +kernel)
theorem dL_law_1168 : decode cL_law 1168 = .ok (.iconst 0, 1) := zq_0 zo_3 zkL_law_1152 16 rfl rfl
theorem dL_law_1169 : decode cL_law 1169 = .ok (.invokevirtual 99, 3) := zq_2 zo_182 zkL_law_1152 17 rfl rfl 0 99 rfl rfl _ rfl
theorem dL_law_1172 : decode cL_law 1172 = .ok (.pop, 1) := zq_0 zo_87 zkL_law_1152 20 rfl rfl
theorem dL_law_1173 : decode cL_law 1173 = .ok (.aload_n 2, 1) := zq_0 zo_44 zkL_law_1152 21 rfl rfl
theorem dL_law_1174 : decode cL_law 1174 = .ok (.aload_n 0, 1) := zq_0 zo_42 zkL_law_1152 22 rfl rfl
theorem dL_law_1175 : decode cL_law 1175 = .ok (.iload_n 3, 1) := zq_0 zo_29 zkL_law_1152 23 rfl rfl
theorem dL_law_1176 : decode cL_law 1176 = .ok (.iconst 1, 1) := zq_0 zo_4 zkL_law_1152 24 rfl rfl
theorem dL_law_1177 : decode cL_law 1177 = .ok (.iadd, 1) := zq_0 zo_96 zkL_law_1152 25 rfl rfl
theorem dL_law_1178 : decode cL_law 1178 = .ok (.iaload, 1) := zq_0 zo_46 zkL_law_1152 26 rfl rfl
theorem dL_law_1179 : decode cL_law 1179 = .ok (.aload_n 0, 1) := zq_0 zo_42 zkL_law_1152 27 rfl rfl
theorem dL_law_1180 : decode cL_law 1180 = .ok (.iload_n 3, 1) := zq_0 zo_29 zkL_law_1152 28 rfl rfl
theorem dL_law_1181 : decode cL_law 1181 = .ok (.iconst 2, 1) := zq_0 zo_5 zkL_law_1152 29 rfl rfl
theorem dL_law_1182 : decode cL_law 1182 = .ok (.iadd, 1) := zq_0 zo_96 zkL_law_1152 30 rfl rfl
theorem dL_law_1183 : decode cL_law 1183 = .ok (.iaload, 1) := zq_0 zo_46 zkL_law_1152 31 rfl rfl
theorem zkL_law_1184 : zqc cL_law 1184 [42, 29, 6, 96, 46, 42, 29, 7, 96, 46, 153, 0, 7, 4, 167, 0, 4, 3, 182, 0, 103, 87, 167, 2, 118, 43, 42, 29, 4, 96, 46, 42, 29, 5] := zq_of 34 (by decide +kernel)
theorem dL_law_1184 : decode cL_law 1184 = .ok (.aload_n 0, 1) := zq_0 zo_42 zkL_law_1184 0 rfl rfl
theorem dL_law_1185 : decode cL_law 1185 = .ok (.iload_n 3, 1) := zq_0 zo_29 zkL_law_1184 1 rfl rfl
theorem dL_law_1186 : decode cL_law 1186 = .ok (.iconst 3, 1) := zq_0 zo_6 zkL_law_1184 2 rfl rfl
theorem dL_law_1187 : decode cL_law 1187 = .ok (.iadd, 1) := zq_0 zo_96 zkL_law_1184 3 rfl rfl
theorem dL_law_1188 : decode cL_law 1188 = .ok (.iaload, 1) := zq_0 zo_46 zkL_law_1184 4 rfl rfl
theorem dL_law_1189 : decode cL_law 1189 = .ok (.aload_n 0, 1) := zq_0 zo_42 zkL_law_1184 5 rfl rfl
theorem dL_law_1190 : decode cL_law 1190 = .ok (.iload_n 3, 1) := zq_0 zo_29 zkL_law_1184 6 rfl rfl
theorem dL_law_1191 : decode cL_law 1191 = .ok (.iconst 4, 1) := zq_0 zo_7 zkL_law_1184 7 rfl rfl
theorem dL_law_1192 : decode cL_law 1192 = .ok (.iadd, 1) := zq_0 zo_96 zkL_law_1184 8 rfl rfl
theorem dL_law_1193 : decode cL_law 1193 = .ok (.iaload, 1) := zq_0 zo_46 zkL_law_1184 9 rfl rfl
theorem dL_law_1194 : decode cL_law 1194 = .ok (.ifCond .eq 7, 3) := zq_2s zo_153 zkL_law_1184 10 rfl rfl 0 7 rfl rfl _ (by decide +kernel)
theorem dL_law_1197 : decode cL_law 1197 = .ok (.iconst 1, 1) := zq_0 zo_4 zkL_law_1184 13 rfl rfl
theorem dL_law_1198 : decode cL_law 1198 = .ok (.goto 4, 3) := zq_2s zo_167 zkL_law_1184 14 rfl rfl 0 4 rfl rfl _ (by decide +kernel)
theorem dL_law_1201 : decode cL_law 1201 = .ok (.iconst 0, 1) := zq_0 zo_3 zkL_law_1184 17 rfl rfl
theorem dL_law_1202 : decode cL_law 1202 = .ok (.invokevirtual 103, 3) := zq_2 zo_182 zkL_law_1184 18 rfl rfl 0 103 rfl rfl _ rfl
theorem dL_law_1205 : decode cL_law 1205 = .ok (.pop, 1) := zq_0 zo_87 zkL_law_1184 21 rfl rfl
theorem dL_law_1206 : decode cL_law 1206 = .ok (.goto 630, 3) := zq_2s zo_167 zkL_law_1184 22 rfl rfl 2 118 rfl rfl _ (by decide +kernel)
theorem dL_law_1209 : decode cL_law 1209 = .ok (.aload_n 1, 1) := zq_0 zo_43 zkL_law_1184 25 rfl rfl
theorem dL_law_1210 : decode cL_law 1210 = .ok (.aload_n 0, 1) := zq_0 zo_42 zkL_law_1184 26 rfl rfl
theorem dL_law_1211 : decode cL_law 1211 = .ok (.iload_n 3, 1) := zq_0 zo_29 zkL_law_1184 27 rfl rfl
theorem dL_law_1212 : decode cL_law 1212 = .ok (.iconst 1, 1) := zq_0 zo_4 zkL_law_1184 28 rfl rfl
theorem dL_law_1213 : decode cL_law 1213 = .ok (.iadd, 1) := zq_0 zo_96 zkL_law_1184 29 rfl rfl
theorem dL_law_1214 : decode cL_law 1214 = .ok (.iaload, 1) := zq_0 zo_46 zkL_law_1184 30 rfl rfl
theorem dL_law_1215 : decode cL_law 1215 = .ok (.aload_n 0, 1) := zq_0 zo_42 zkL_law_1184 31 rfl rfl
theorem zkL_law_1216 : zqc cL_law 1216 [29, 5, 96, 46, 42, 29, 6, 96, 46, 42, 29, 7, 96, 46, 153, 0, 7, 4, 167, 0, 4, 3, 182, 0, 104, 87, 44, 42, 29, 4, 96, 46, 42, 29] := zq_of 34 (by decide +kernel)
theorem dL_law_1216 : decode cL_law 1216 = .ok (.iload_n 3, 1) := zq_0 zo_29 zkL_law_1216 0 rfl rfl
theorem dL_law_1217 : decode cL_law 1217 = .ok (.iconst 2, 1) := zq_0 zo_5 zkL_law_1216 1 rfl rfl
theorem dL_law_1218 : decode cL_law 1218 = .ok (.iadd, 1) := zq_0 zo_96 zkL_law_1216 2 rfl rfl
theorem dL_law_1219 : decode cL_law 1219 = .ok (.iaload, 1) := zq_0 zo_46 zkL_law_1216 3 rfl rfl
theorem dL_law_1220 : decode cL_law 1220 = .ok (.aload_n 0, 1) := zq_0 zo_42 zkL_law_1216 4 rfl rfl
theorem dL_law_1221 : decode cL_law 1221 = .ok (.iload_n 3, 1) := zq_0 zo_29 zkL_law_1216 5 rfl rfl
theorem dL_law_1222 : decode cL_law 1222 = .ok (.iconst 3, 1) := zq_0 zo_6 zkL_law_1216 6 rfl rfl
theorem dL_law_1223 : decode cL_law 1223 = .ok (.iadd, 1) := zq_0 zo_96 zkL_law_1216 7 rfl rfl
theorem dL_law_1224 : decode cL_law 1224 = .ok (.iaload, 1) := zq_0 zo_46 zkL_law_1216 8 rfl rfl
theorem dL_law_1225 : decode cL_law 1225 = .ok (.aload_n 0, 1) := zq_0 zo_42 zkL_law_1216 9 rfl rfl
theorem dL_law_1226 : decode cL_law 1226 = .ok (.iload_n 3, 1) := zq_0 zo_29 zkL_law_1216 10 rfl rfl
theorem dL_law_1227 : decode cL_law 1227 = .ok (.iconst 4, 1) := zq_0 zo_7 zkL_law_1216 11 rfl rfl
theorem dL_law_1228 : decode cL_law 1228 = .ok (.iadd, 1) := zq_0 zo_96 zkL_law_1216 12 rfl rfl
theorem dL_law_1229 : decode cL_law 1229 = .ok (.iaload, 1) := zq_0 zo_46 zkL_law_1216 13 rfl rfl
theorem dL_law_1230 : decode cL_law 1230 = .ok (.ifCond .eq 7, 3) := zq_2s zo_153 zkL_law_1216 14 rfl rfl 0 7 rfl rfl _ (by decide +kernel)
theorem dL_law_1233 : decode cL_law 1233 = .ok (.iconst 1, 1) := zq_0 zo_4 zkL_law_1216 17 rfl rfl
theorem dL_law_1234 : decode cL_law 1234 = .ok (.goto 4, 3) := zq_2s zo_167 zkL_law_1216 18 rfl rfl 0 4 rfl rfl _ (by decide +kernel)
theorem dL_law_1237 : decode cL_law 1237 = .ok (.iconst 0, 1) := zq_0 zo_3 zkL_law_1216 21 rfl rfl
theorem dL_law_1238 : decode cL_law 1238 = .ok (.invokevirtual 104, 3) := zq_2 zo_182 zkL_law_1216 22 rfl rfl 0 104 rfl rfl _ rfl
theorem dL_law_1241 : decode cL_law 1241 = .ok (.pop, 1) := zq_0 zo_87 zkL_law_1216 25 rfl rfl
theorem dL_law_1242 : decode cL_law 1242 = .ok (.aload_n 2, 1) := zq_0 zo_44 zkL_law_1216 26 rfl rfl
theorem dL_law_1243 : decode cL_law 1243 = .ok (.aload_n 0, 1) := zq_0 zo_42 zkL_law_1216 27 rfl rfl
theorem dL_law_1244 : decode cL_law 1244 = .ok (.iload_n 3, 1) := zq_0 zo_29 zkL_law_1216 28 rfl rfl
theorem dL_law_1245 : decode cL_law 1245 = .ok (.iconst 1, 1) := zq_0 zo_4 zkL_law_1216 29 rfl rfl
theorem dL_law_1246 : decode cL_law 1246 = .ok (.iadd, 1) := zq_0 zo_96 zkL_law_1216 30 rfl rfl
theorem dL_law_1247 : decode cL_law 1247 = .ok (.iaload, 1) := zq_0 zo_46 zkL_law_1216 31 rfl rfl
theorem zkL_law_1248 : zqc cL_law 1248 [42, 29, 5, 96, 46, 42, 29, 6, 96, 46, 42, 29, 7, 96, 46, 153, 0, 7, 4, 167, 0, 4, 3, 182, 0, 107, 87, 167, 2, 49, 43, 42, 29, 4] := zq_of 34 (by decide +kernel)
theorem dL_law_1248 : decode cL_law 1248 = .ok (.aload_n 0, 1) := zq_0 zo_42 zkL_law_1248 0 rfl rfl
theorem dL_law_1249 : decode cL_law 1249 = .ok (.iload_n 3, 1) := zq_0 zo_29 zkL_law_1248 1 rfl rfl
theorem dL_law_1250 : decode cL_law 1250 = .ok (.iconst 2, 1) := zq_0 zo_5 zkL_law_1248 2 rfl rfl
theorem dL_law_1251 : decode cL_law 1251 = .ok (.iadd, 1) := zq_0 zo_96 zkL_law_1248 3 rfl rfl
theorem dL_law_1252 : decode cL_law 1252 = .ok (.iaload, 1) := zq_0 zo_46 zkL_law_1248 4 rfl rfl
theorem dL_law_1253 : decode cL_law 1253 = .ok (.aload_n 0, 1) := zq_0 zo_42 zkL_law_1248 5 rfl rfl
theorem dL_law_1254 : decode cL_law 1254 = .ok (.iload_n 3, 1) := zq_0 zo_29 zkL_law_1248 6 rfl rfl
theorem dL_law_1255 : decode cL_law 1255 = .ok (.iconst 3, 1) := zq_0 zo_6 zkL_law_1248 7 rfl rfl
theorem dL_law_1256 : decode cL_law 1256 = .ok (.iadd, 1) := zq_0 zo_96 zkL_law_1248 8 rfl rfl
theorem dL_law_1257 : decode cL_law 1257 = .ok (.iaload, 1) := zq_0 zo_46 zkL_law_1248 9 rfl rfl
theorem dL_law_1258 : decode cL_law 1258 = .ok (.aload_n 0, 1) := zq_0 zo_42 zkL_law_1248 10 rfl rfl
theorem dL_law_1259 : decode cL_law 1259 = .ok (.iload_n 3, 1) := zq_0 zo_29 zkL_law_1248 11 rfl rfl
theorem dL_law_1260 : decode cL_law 1260 = .ok (.iconst 4, 1) := zq_0 zo_7 zkL_law_1248 12 rfl rfl
theorem dL_law_1261 : decode cL_law 1261 = .ok (.iadd, 1) := zq_0 zo_96 zkL_law_1248 13 rfl rfl
theorem dL_law_1262 : decode cL_law 1262 = .ok (.iaload, 1) := zq_0 zo_46 zkL_law_1248 14 rfl rfl
theorem dL_law_1263 : decode cL_law 1263 = .ok (.ifCond .eq 7, 3) := zq_2s zo_153 zkL_law_1248 15 rfl rfl 0 7 rfl rfl _ (by decide +kernel)
theorem dL_law_1266 : decode cL_law 1266 = .ok (.iconst 1, 1) := zq_0 zo_4 zkL_law_1248 18 rfl rfl
theorem dL_law_1267 : decode cL_law 1267 = .ok (.goto 4, 3) := zq_2s zo_167 zkL_law_1248 19 rfl rfl 0 4 rfl rfl _ (by decide +kernel)
theorem dL_law_1270 : decode cL_law 1270 = .ok (.iconst 0, 1) := zq_0 zo_3 zkL_law_1248 22 rfl rfl
theorem dL_law_1271 : decode cL_law 1271 = .ok (.invokevirtual 107, 3) := zq_2 zo_182 zkL_law_1248 23 rfl rfl 0 107 rfl rfl _ rfl
theorem dL_law_1274 : decode cL_law 1274 = .ok (.pop, 1) := zq_0 zo_87 zkL_law_1248 26 rfl rfl
theorem dL_law_1275 : decode cL_law 1275 = .ok (.goto 561, 3) := zq_2s zo_167 zkL_law_1248 27 rfl rfl 2 49 rfl rfl _ (by decide +kernel)
theorem dL_law_1278 : decode cL_law 1278 = .ok (.aload_n 1, 1) := zq_0 zo_43 zkL_law_1248 30 rfl rfl
theorem dL_law_1279 : decode cL_law 1279 = .ok (.aload_n 0, 1) := zq_0 zo_42 zkL_law_1248 31 rfl rfl
theorem zkL_law_1280 : zqc cL_law 1280 [29, 4, 96, 46, 42, 29, 5, 96, 46, 42, 29, 6, 96, 46, 182, 0, 108, 87, 44, 42, 29, 4, 96, 46, 42, 29, 5, 96, 46, 42, 29, 6, 96, 46] := zq_of 34 (by decide +kernel)
theorem dL_law_1280 : decode cL_law 1280 = .ok (.iload_n 3, 1) := zq_0 zo_29 zkL_law_1280 0 rfl rfl
theorem dL_law_1281 : decode cL_law 1281 = .ok (.iconst 1, 1) := zq_0 zo_4 zkL_law_1280 1 rfl rfl
theorem dL_law_1282 : decode cL_law 1282 = .ok (.iadd, 1) := zq_0 zo_96 zkL_law_1280 2 rfl rfl
theorem dL_law_1283 : decode cL_law 1283 = .ok (.iaload, 1) := zq_0 zo_46 zkL_law_1280 3 rfl rfl
theorem dL_law_1284 : decode cL_law 1284 = .ok (.aload_n 0, 1) := zq_0 zo_42 zkL_law_1280 4 rfl rfl
theorem dL_law_1285 : decode cL_law 1285 = .ok (.iload_n 3, 1) := zq_0 zo_29 zkL_law_1280 5 rfl rfl
theorem dL_law_1286 : decode cL_law 1286 = .ok (.iconst 2, 1) := zq_0 zo_5 zkL_law_1280 6 rfl rfl
theorem dL_law_1287 : decode cL_law 1287 = .ok (.iadd, 1) := zq_0 zo_96 zkL_law_1280 7 rfl rfl
theorem dL_law_1288 : decode cL_law 1288 = .ok (.iaload, 1) := zq_0 zo_46 zkL_law_1280 8 rfl rfl
theorem dL_law_1289 : decode cL_law 1289 = .ok (.aload_n 0, 1) := zq_0 zo_42 zkL_law_1280 9 rfl rfl
theorem dL_law_1290 : decode cL_law 1290 = .ok (.iload_n 3, 1) := zq_0 zo_29 zkL_law_1280 10 rfl rfl
theorem dL_law_1291 : decode cL_law 1291 = .ok (.iconst 3, 1) := zq_0 zo_6 zkL_law_1280 11 rfl rfl
theorem dL_law_1292 : decode cL_law 1292 = .ok (.iadd, 1) := zq_0 zo_96 zkL_law_1280 12 rfl rfl
theorem dL_law_1293 : decode cL_law 1293 = .ok (.iaload, 1) := zq_0 zo_46 zkL_law_1280 13 rfl rfl
theorem dL_law_1294 : decode cL_law 1294 = .ok (.invokevirtual 108, 3) := zq_2 zo_182 zkL_law_1280 14 rfl rfl 0 108 rfl rfl _ rfl
theorem dL_law_1297 : decode cL_law 1297 = .ok (.pop, 1) := zq_0 zo_87 zkL_law_1280 17 rfl rfl
theorem dL_law_1298 : decode cL_law 1298 = .ok (.aload_n 2, 1) := zq_0 zo_44 zkL_law_1280 18 rfl rfl
theorem dL_law_1299 : decode cL_law 1299 = .ok (.aload_n 0, 1) := zq_0 zo_42 zkL_law_1280 19 rfl rfl
theorem dL_law_1300 : decode cL_law 1300 = .ok (.iload_n 3, 1) := zq_0 zo_29 zkL_law_1280 20 rfl rfl
theorem dL_law_1301 : decode cL_law 1301 = .ok (.iconst 1, 1) := zq_0 zo_4 zkL_law_1280 21 rfl rfl
theorem dL_law_1302 : decode cL_law 1302 = .ok (.iadd, 1) := zq_0 zo_96 zkL_law_1280 22 rfl rfl
theorem dL_law_1303 : decode cL_law 1303 = .ok (.iaload, 1) := zq_0 zo_46 zkL_law_1280 23 rfl rfl
theorem dL_law_1304 : decode cL_law 1304 = .ok (.aload_n 0, 1) := zq_0 zo_42 zkL_law_1280 24 rfl rfl
theorem dL_law_1305 : decode cL_law 1305 = .ok (.iload_n 3, 1) := zq_0 zo_29 zkL_law_1280 25 rfl rfl
theorem dL_law_1306 : decode cL_law 1306 = .ok (.iconst 2, 1) := zq_0 zo_5 zkL_law_1280 26 rfl rfl
theorem dL_law_1307 : decode cL_law 1307 = .ok (.iadd, 1) := zq_0 zo_96 zkL_law_1280 27 rfl rfl
theorem dL_law_1308 : decode cL_law 1308 = .ok (.iaload, 1) := zq_0 zo_46 zkL_law_1280 28 rfl rfl
theorem dL_law_1309 : decode cL_law 1309 = .ok (.aload_n 0, 1) := zq_0 zo_42 zkL_law_1280 29 rfl rfl
theorem dL_law_1310 : decode cL_law 1310 = .ok (.iload_n 3, 1) := zq_0 zo_29 zkL_law_1280 30 rfl rfl
theorem dL_law_1311 : decode cL_law 1311 = .ok (.iconst 3, 1) := zq_0 zo_6 zkL_law_1280 31 rfl rfl
theorem zkL_law_1312 : zqc cL_law 1312 [96, 46, 182, 0, 111, 87, 167, 2, 6, 43, 42, 29, 4, 96, 46, 42, 29, 5, 96, 46, 42, 29, 6, 96, 46, 42, 29, 7, 96, 46, 42, 29, 8, 96] := zq_of 34 (by decide +kernel)
theorem dL_law_1312 : decode cL_law 1312 = .ok (.iadd, 1) := zq_0 zo_96 zkL_law_1312 0 rfl rfl
theorem dL_law_1313 : decode cL_law 1313 = .ok (.iaload, 1) := zq_0 zo_46 zkL_law_1312 1 rfl rfl
theorem dL_law_1314 : decode cL_law 1314 = .ok (.invokevirtual 111, 3) := zq_2 zo_182 zkL_law_1312 2 rfl rfl 0 111 rfl rfl _ rfl
theorem dL_law_1317 : decode cL_law 1317 = .ok (.pop, 1) := zq_0 zo_87 zkL_law_1312 5 rfl rfl
theorem dL_law_1318 : decode cL_law 1318 = .ok (.goto 518, 3) := zq_2s zo_167 zkL_law_1312 6 rfl rfl 2 6 rfl rfl _ (by decide +kernel)
theorem dL_law_1321 : decode cL_law 1321 = .ok (.aload_n 1, 1) := zq_0 zo_43 zkL_law_1312 9 rfl rfl
theorem dL_law_1322 : decode cL_law 1322 = .ok (.aload_n 0, 1) := zq_0 zo_42 zkL_law_1312 10 rfl rfl
theorem dL_law_1323 : decode cL_law 1323 = .ok (.iload_n 3, 1) := zq_0 zo_29 zkL_law_1312 11 rfl rfl
theorem dL_law_1324 : decode cL_law 1324 = .ok (.iconst 1, 1) := zq_0 zo_4 zkL_law_1312 12 rfl rfl
theorem dL_law_1325 : decode cL_law 1325 = .ok (.iadd, 1) := zq_0 zo_96 zkL_law_1312 13 rfl rfl
theorem dL_law_1326 : decode cL_law 1326 = .ok (.iaload, 1) := zq_0 zo_46 zkL_law_1312 14 rfl rfl
theorem dL_law_1327 : decode cL_law 1327 = .ok (.aload_n 0, 1) := zq_0 zo_42 zkL_law_1312 15 rfl rfl
theorem dL_law_1328 : decode cL_law 1328 = .ok (.iload_n 3, 1) := zq_0 zo_29 zkL_law_1312 16 rfl rfl
theorem dL_law_1329 : decode cL_law 1329 = .ok (.iconst 2, 1) := zq_0 zo_5 zkL_law_1312 17 rfl rfl
theorem dL_law_1330 : decode cL_law 1330 = .ok (.iadd, 1) := zq_0 zo_96 zkL_law_1312 18 rfl rfl
theorem dL_law_1331 : decode cL_law 1331 = .ok (.iaload, 1) := zq_0 zo_46 zkL_law_1312 19 rfl rfl
theorem dL_law_1332 : decode cL_law 1332 = .ok (.aload_n 0, 1) := zq_0 zo_42 zkL_law_1312 20 rfl rfl
theorem dL_law_1333 : decode cL_law 1333 = .ok (.iload_n 3, 1) := zq_0 zo_29 zkL_law_1312 21 rfl rfl
theorem dL_law_1334 : decode cL_law 1334 = .ok (.iconst 3, 1) := zq_0 zo_6 zkL_law_1312 22 rfl rfl
theorem dL_law_1335 : decode cL_law 1335 = .ok (.iadd, 1) := zq_0 zo_96 zkL_law_1312 23 rfl rfl
theorem dL_law_1336 : decode cL_law 1336 = .ok (.iaload, 1) := zq_0 zo_46 zkL_law_1312 24 rfl rfl
theorem dL_law_1337 : decode cL_law 1337 = .ok (.aload_n 0, 1) := zq_0 zo_42 zkL_law_1312 25 rfl rfl
theorem dL_law_1338 : decode cL_law 1338 = .ok (.iload_n 3, 1) := zq_0 zo_29 zkL_law_1312 26 rfl rfl
theorem dL_law_1339 : decode cL_law 1339 = .ok (.iconst 4, 1) := zq_0 zo_7 zkL_law_1312 27 rfl rfl
theorem dL_law_1340 : decode cL_law 1340 = .ok (.iadd, 1) := zq_0 zo_96 zkL_law_1312 28 rfl rfl
theorem dL_law_1341 : decode cL_law 1341 = .ok (.iaload, 1) := zq_0 zo_46 zkL_law_1312 29 rfl rfl
theorem dL_law_1342 : decode cL_law 1342 = .ok (.aload_n 0, 1) := zq_0 zo_42 zkL_law_1312 30 rfl rfl
theorem dL_law_1343 : decode cL_law 1343 = .ok (.iload_n 3, 1) := zq_0 zo_29 zkL_law_1312 31 rfl rfl
theorem zkL_law_1344 : zqc cL_law 1344 [8, 96, 46, 153, 0, 7, 4, 167, 0, 4, 3, 182, 0, 112, 87, 44, 42, 29, 4, 96, 46, 42, 29, 5, 96, 46, 42, 29, 6, 96, 46, 42, 29, 7] := zq_of 34 (by decide +kernel)
theorem dL_law_1344 : decode cL_law 1344 = .ok (.iconst 5, 1) := zq_0 zo_8 zkL_law_1344 0 rfl rfl
theorem dL_law_1345 : decode cL_law 1345 = .ok (.iadd, 1) := zq_0 zo_96 zkL_law_1344 1 rfl rfl
theorem dL_law_1346 : decode cL_law 1346 = .ok (.iaload, 1) := zq_0 zo_46 zkL_law_1344 2 rfl rfl
theorem dL_law_1347 : decode cL_law 1347 = .ok (.ifCond .eq 7, 3) := zq_2s zo_153 zkL_law_1344 3 rfl rfl 0 7 rfl rfl _ (by decide +kernel)
theorem dL_law_1350 : decode cL_law 1350 = .ok (.iconst 1, 1) := zq_0 zo_4 zkL_law_1344 6 rfl rfl
theorem dL_law_1351 : decode cL_law 1351 = .ok (.goto 4, 3) := zq_2s zo_167 zkL_law_1344 7 rfl rfl 0 4 rfl rfl _ (by decide +kernel)
theorem dL_law_1354 : decode cL_law 1354 = .ok (.iconst 0, 1) := zq_0 zo_3 zkL_law_1344 10 rfl rfl
theorem dL_law_1355 : decode cL_law 1355 = .ok (.invokevirtual 112, 3) := zq_2 zo_182 zkL_law_1344 11 rfl rfl 0 112 rfl rfl _ rfl
theorem dL_law_1358 : decode cL_law 1358 = .ok (.pop, 1) := zq_0 zo_87 zkL_law_1344 14 rfl rfl
theorem dL_law_1359 : decode cL_law 1359 = .ok (.aload_n 2, 1) := zq_0 zo_44 zkL_law_1344 15 rfl rfl
theorem dL_law_1360 : decode cL_law 1360 = .ok (.aload_n 0, 1) := zq_0 zo_42 zkL_law_1344 16 rfl rfl
theorem dL_law_1361 : decode cL_law 1361 = .ok (.iload_n 3, 1) := zq_0 zo_29 zkL_law_1344 17 rfl rfl
theorem dL_law_1362 : decode cL_law 1362 = .ok (.iconst 1, 1) := zq_0 zo_4 zkL_law_1344 18 rfl rfl
theorem dL_law_1363 : decode cL_law 1363 = .ok (.iadd, 1) := zq_0 zo_96 zkL_law_1344 19 rfl rfl
theorem dL_law_1364 : decode cL_law 1364 = .ok (.iaload, 1) := zq_0 zo_46 zkL_law_1344 20 rfl rfl
theorem dL_law_1365 : decode cL_law 1365 = .ok (.aload_n 0, 1) := zq_0 zo_42 zkL_law_1344 21 rfl rfl
theorem dL_law_1366 : decode cL_law 1366 = .ok (.iload_n 3, 1) := zq_0 zo_29 zkL_law_1344 22 rfl rfl
theorem dL_law_1367 : decode cL_law 1367 = .ok (.iconst 2, 1) := zq_0 zo_5 zkL_law_1344 23 rfl rfl
theorem dL_law_1368 : decode cL_law 1368 = .ok (.iadd, 1) := zq_0 zo_96 zkL_law_1344 24 rfl rfl
theorem dL_law_1369 : decode cL_law 1369 = .ok (.iaload, 1) := zq_0 zo_46 zkL_law_1344 25 rfl rfl
theorem dL_law_1370 : decode cL_law 1370 = .ok (.aload_n 0, 1) := zq_0 zo_42 zkL_law_1344 26 rfl rfl
theorem dL_law_1371 : decode cL_law 1371 = .ok (.iload_n 3, 1) := zq_0 zo_29 zkL_law_1344 27 rfl rfl
theorem dL_law_1372 : decode cL_law 1372 = .ok (.iconst 3, 1) := zq_0 zo_6 zkL_law_1344 28 rfl rfl
theorem dL_law_1373 : decode cL_law 1373 = .ok (.iadd, 1) := zq_0 zo_96 zkL_law_1344 29 rfl rfl
theorem dL_law_1374 : decode cL_law 1374 = .ok (.iaload, 1) := zq_0 zo_46 zkL_law_1344 30 rfl rfl
theorem dL_law_1375 : decode cL_law 1375 = .ok (.aload_n 0, 1) := zq_0 zo_42 zkL_law_1344 31 rfl rfl
theorem zkL_law_1376 : zqc cL_law 1376 [29, 7, 96, 46, 42, 29, 8, 96, 46, 153, 0, 7, 4, 167, 0, 4, 3, 182, 0, 116, 87, 167, 1, 183, 43, 42, 29, 4, 96, 46, 42, 29, 5, 96] := zq_of 34 (by decide +kernel)
theorem dL_law_1376 : decode cL_law 1376 = .ok (.iload_n 3, 1) := zq_0 zo_29 zkL_law_1376 0 rfl rfl
theorem dL_law_1377 : decode cL_law 1377 = .ok (.iconst 4, 1) := zq_0 zo_7 zkL_law_1376 1 rfl rfl
theorem dL_law_1378 : decode cL_law 1378 = .ok (.iadd, 1) := zq_0 zo_96 zkL_law_1376 2 rfl rfl
theorem dL_law_1379 : decode cL_law 1379 = .ok (.iaload, 1) := zq_0 zo_46 zkL_law_1376 3 rfl rfl
theorem dL_law_1380 : decode cL_law 1380 = .ok (.aload_n 0, 1) := zq_0 zo_42 zkL_law_1376 4 rfl rfl
theorem dL_law_1381 : decode cL_law 1381 = .ok (.iload_n 3, 1) := zq_0 zo_29 zkL_law_1376 5 rfl rfl
theorem dL_law_1382 : decode cL_law 1382 = .ok (.iconst 5, 1) := zq_0 zo_8 zkL_law_1376 6 rfl rfl
theorem dL_law_1383 : decode cL_law 1383 = .ok (.iadd, 1) := zq_0 zo_96 zkL_law_1376 7 rfl rfl
theorem dL_law_1384 : decode cL_law 1384 = .ok (.iaload, 1) := zq_0 zo_46 zkL_law_1376 8 rfl rfl
theorem dL_law_1385 : decode cL_law 1385 = .ok (.ifCond .eq 7, 3) := zq_2s zo_153 zkL_law_1376 9 rfl rfl 0 7 rfl rfl _ (by decide +kernel)
theorem dL_law_1388 : decode cL_law 1388 = .ok (.iconst 1, 1) := zq_0 zo_4 zkL_law_1376 12 rfl rfl
theorem dL_law_1389 : decode cL_law 1389 = .ok (.goto 4, 3) := zq_2s zo_167 zkL_law_1376 13 rfl rfl 0 4 rfl rfl _ (by decide +kernel)
theorem dL_law_1392 : decode cL_law 1392 = .ok (.iconst 0, 1) := zq_0 zo_3 zkL_law_1376 16 rfl rfl
theorem dL_law_1393 : decode cL_law 1393 = .ok (.invokevirtual 116, 3) := zq_2 zo_182 zkL_law_1376 17 rfl rfl 0 116 rfl rfl _ rfl
theorem dL_law_1396 : decode cL_law 1396 = .ok (.pop, 1) := zq_0 zo_87 zkL_law_1376 20 rfl rfl
theorem dL_law_1397 : decode cL_law 1397 = .ok (.goto 439, 3) := zq_2s zo_167 zkL_law_1376 21 rfl rfl 1 183 rfl rfl _ (by decide +kernel)
theorem dL_law_1400 : decode cL_law 1400 = .ok (.aload_n 1, 1) := zq_0 zo_43 zkL_law_1376 24 rfl rfl
theorem dL_law_1401 : decode cL_law 1401 = .ok (.aload_n 0, 1) := zq_0 zo_42 zkL_law_1376 25 rfl rfl
theorem dL_law_1402 : decode cL_law 1402 = .ok (.iload_n 3, 1) := zq_0 zo_29 zkL_law_1376 26 rfl rfl
theorem dL_law_1403 : decode cL_law 1403 = .ok (.iconst 1, 1) := zq_0 zo_4 zkL_law_1376 27 rfl rfl
theorem dL_law_1404 : decode cL_law 1404 = .ok (.iadd, 1) := zq_0 zo_96 zkL_law_1376 28 rfl rfl
theorem dL_law_1405 : decode cL_law 1405 = .ok (.iaload, 1) := zq_0 zo_46 zkL_law_1376 29 rfl rfl
theorem dL_law_1406 : decode cL_law 1406 = .ok (.aload_n 0, 1) := zq_0 zo_42 zkL_law_1376 30 rfl rfl
theorem dL_law_1407 : decode cL_law 1407 = .ok (.iload_n 3, 1) := zq_0 zo_29 zkL_law_1376 31 rfl rfl
theorem zkL_law_1408 : zqc cL_law 1408 [5, 96, 46, 42, 29, 6, 96, 46, 42, 29, 7, 96, 46, 42, 29, 8, 96, 46, 182, 0, 117, 87, 44, 42, 29, 4, 96, 46, 42, 29, 5, 96, 46, 42] := zq_of 34 (by decide +kernel)
theorem dL_law_1408 : decode cL_law 1408 = .ok (.iconst 2, 1) := zq_0 zo_5 zkL_law_1408 0 rfl rfl
theorem dL_law_1409 : decode cL_law 1409 = .ok (.iadd, 1) := zq_0 zo_96 zkL_law_1408 1 rfl rfl
theorem dL_law_1410 : decode cL_law 1410 = .ok (.iaload, 1) := zq_0 zo_46 zkL_law_1408 2 rfl rfl
theorem dL_law_1411 : decode cL_law 1411 = .ok (.aload_n 0, 1) := zq_0 zo_42 zkL_law_1408 3 rfl rfl
theorem dL_law_1412 : decode cL_law 1412 = .ok (.iload_n 3, 1) := zq_0 zo_29 zkL_law_1408 4 rfl rfl
theorem dL_law_1413 : decode cL_law 1413 = .ok (.iconst 3, 1) := zq_0 zo_6 zkL_law_1408 5 rfl rfl
theorem dL_law_1414 : decode cL_law 1414 = .ok (.iadd, 1) := zq_0 zo_96 zkL_law_1408 6 rfl rfl
theorem dL_law_1415 : decode cL_law 1415 = .ok (.iaload, 1) := zq_0 zo_46 zkL_law_1408 7 rfl rfl
theorem dL_law_1416 : decode cL_law 1416 = .ok (.aload_n 0, 1) := zq_0 zo_42 zkL_law_1408 8 rfl rfl
theorem dL_law_1417 : decode cL_law 1417 = .ok (.iload_n 3, 1) := zq_0 zo_29 zkL_law_1408 9 rfl rfl
theorem dL_law_1418 : decode cL_law 1418 = .ok (.iconst 4, 1) := zq_0 zo_7 zkL_law_1408 10 rfl rfl
theorem dL_law_1419 : decode cL_law 1419 = .ok (.iadd, 1) := zq_0 zo_96 zkL_law_1408 11 rfl rfl
theorem dL_law_1420 : decode cL_law 1420 = .ok (.iaload, 1) := zq_0 zo_46 zkL_law_1408 12 rfl rfl
theorem dL_law_1421 : decode cL_law 1421 = .ok (.aload_n 0, 1) := zq_0 zo_42 zkL_law_1408 13 rfl rfl
theorem dL_law_1422 : decode cL_law 1422 = .ok (.iload_n 3, 1) := zq_0 zo_29 zkL_law_1408 14 rfl rfl
theorem dL_law_1423 : decode cL_law 1423 = .ok (.iconst 5, 1) := zq_0 zo_8 zkL_law_1408 15 rfl rfl
theorem dL_law_1424 : decode cL_law 1424 = .ok (.iadd, 1) := zq_0 zo_96 zkL_law_1408 16 rfl rfl
theorem dL_law_1425 : decode cL_law 1425 = .ok (.iaload, 1) := zq_0 zo_46 zkL_law_1408 17 rfl rfl
theorem dL_law_1426 : decode cL_law 1426 = .ok (.invokevirtual 117, 3) := zq_2 zo_182 zkL_law_1408 18 rfl rfl 0 117 rfl rfl _ rfl
theorem dL_law_1429 : decode cL_law 1429 = .ok (.pop, 1) := zq_0 zo_87 zkL_law_1408 21 rfl rfl
theorem dL_law_1430 : decode cL_law 1430 = .ok (.aload_n 2, 1) := zq_0 zo_44 zkL_law_1408 22 rfl rfl
theorem dL_law_1431 : decode cL_law 1431 = .ok (.aload_n 0, 1) := zq_0 zo_42 zkL_law_1408 23 rfl rfl
theorem dL_law_1432 : decode cL_law 1432 = .ok (.iload_n 3, 1) := zq_0 zo_29 zkL_law_1408 24 rfl rfl
theorem dL_law_1433 : decode cL_law 1433 = .ok (.iconst 1, 1) := zq_0 zo_4 zkL_law_1408 25 rfl rfl
theorem dL_law_1434 : decode cL_law 1434 = .ok (.iadd, 1) := zq_0 zo_96 zkL_law_1408 26 rfl rfl
theorem dL_law_1435 : decode cL_law 1435 = .ok (.iaload, 1) := zq_0 zo_46 zkL_law_1408 27 rfl rfl
theorem dL_law_1436 : decode cL_law 1436 = .ok (.aload_n 0, 1) := zq_0 zo_42 zkL_law_1408 28 rfl rfl
theorem dL_law_1437 : decode cL_law 1437 = .ok (.iload_n 3, 1) := zq_0 zo_29 zkL_law_1408 29 rfl rfl
theorem dL_law_1438 : decode cL_law 1438 = .ok (.iconst 2, 1) := zq_0 zo_5 zkL_law_1408 30 rfl rfl
theorem dL_law_1439 : decode cL_law 1439 = .ok (.iadd, 1) := zq_0 zo_96 zkL_law_1408 31 rfl rfl
theorem zkL_law_1440 : zqc cL_law 1440 [46, 42, 29, 6, 96, 46, 42, 29, 7, 96, 46, 42, 29, 8, 96, 46, 182, 0, 120, 87, 167, 1, 120, 43, 42, 29, 4, 96, 46, 42, 29, 5, 96, 46] := zq_of 34 (by decide +kernel)
theorem dL_law_1440 : decode cL_law 1440 = .ok (.iaload, 1) := zq_0 zo_46 zkL_law_1440 0 rfl rfl
theorem dL_law_1441 : decode cL_law 1441 = .ok (.aload_n 0, 1) := zq_0 zo_42 zkL_law_1440 1 rfl rfl
theorem dL_law_1442 : decode cL_law 1442 = .ok (.iload_n 3, 1) := zq_0 zo_29 zkL_law_1440 2 rfl rfl
theorem dL_law_1443 : decode cL_law 1443 = .ok (.iconst 3, 1) := zq_0 zo_6 zkL_law_1440 3 rfl rfl
theorem dL_law_1444 : decode cL_law 1444 = .ok (.iadd, 1) := zq_0 zo_96 zkL_law_1440 4 rfl rfl
theorem dL_law_1445 : decode cL_law 1445 = .ok (.iaload, 1) := zq_0 zo_46 zkL_law_1440 5 rfl rfl
theorem dL_law_1446 : decode cL_law 1446 = .ok (.aload_n 0, 1) := zq_0 zo_42 zkL_law_1440 6 rfl rfl
theorem dL_law_1447 : decode cL_law 1447 = .ok (.iload_n 3, 1) := zq_0 zo_29 zkL_law_1440 7 rfl rfl
theorem dL_law_1448 : decode cL_law 1448 = .ok (.iconst 4, 1) := zq_0 zo_7 zkL_law_1440 8 rfl rfl
theorem dL_law_1449 : decode cL_law 1449 = .ok (.iadd, 1) := zq_0 zo_96 zkL_law_1440 9 rfl rfl
theorem dL_law_1450 : decode cL_law 1450 = .ok (.iaload, 1) := zq_0 zo_46 zkL_law_1440 10 rfl rfl
theorem dL_law_1451 : decode cL_law 1451 = .ok (.aload_n 0, 1) := zq_0 zo_42 zkL_law_1440 11 rfl rfl
theorem dL_law_1452 : decode cL_law 1452 = .ok (.iload_n 3, 1) := zq_0 zo_29 zkL_law_1440 12 rfl rfl
theorem dL_law_1453 : decode cL_law 1453 = .ok (.iconst 5, 1) := zq_0 zo_8 zkL_law_1440 13 rfl rfl
theorem dL_law_1454 : decode cL_law 1454 = .ok (.iadd, 1) := zq_0 zo_96 zkL_law_1440 14 rfl rfl
theorem dL_law_1455 : decode cL_law 1455 = .ok (.iaload, 1) := zq_0 zo_46 zkL_law_1440 15 rfl rfl
theorem dL_law_1456 : decode cL_law 1456 = .ok (.invokevirtual 120, 3) := zq_2 zo_182 zkL_law_1440 16 rfl rfl 0 120 rfl rfl _ rfl
theorem dL_law_1459 : decode cL_law 1459 = .ok (.pop, 1) := zq_0 zo_87 zkL_law_1440 19 rfl rfl
theorem dL_law_1460 : decode cL_law 1460 = .ok (.goto 376, 3) := zq_2s zo_167 zkL_law_1440 20 rfl rfl 1 120 rfl rfl _ (by decide +kernel)
theorem dL_law_1463 : decode cL_law 1463 = .ok (.aload_n 1, 1) := zq_0 zo_43 zkL_law_1440 23 rfl rfl
theorem dL_law_1464 : decode cL_law 1464 = .ok (.aload_n 0, 1) := zq_0 zo_42 zkL_law_1440 24 rfl rfl
theorem dL_law_1465 : decode cL_law 1465 = .ok (.iload_n 3, 1) := zq_0 zo_29 zkL_law_1440 25 rfl rfl
theorem dL_law_1466 : decode cL_law 1466 = .ok (.iconst 1, 1) := zq_0 zo_4 zkL_law_1440 26 rfl rfl
theorem dL_law_1467 : decode cL_law 1467 = .ok (.iadd, 1) := zq_0 zo_96 zkL_law_1440 27 rfl rfl
theorem dL_law_1468 : decode cL_law 1468 = .ok (.iaload, 1) := zq_0 zo_46 zkL_law_1440 28 rfl rfl
theorem dL_law_1469 : decode cL_law 1469 = .ok (.aload_n 0, 1) := zq_0 zo_42 zkL_law_1440 29 rfl rfl
theorem dL_law_1470 : decode cL_law 1470 = .ok (.iload_n 3, 1) := zq_0 zo_29 zkL_law_1440 30 rfl rfl
theorem dL_law_1471 : decode cL_law 1471 = .ok (.iconst 2, 1) := zq_0 zo_5 zkL_law_1440 31 rfl rfl
theorem zkL_law_1472 : zqc cL_law 1472 [96, 46, 42, 29, 6, 96, 46, 182, 0, 121, 87, 44, 42, 29, 4, 96, 46, 42, 29, 5, 96, 46, 42, 29, 6, 96, 46, 182, 0, 124, 87, 167, 1, 77] := zq_of 34 (by decide +kernel)
theorem dL_law_1472 : decode cL_law 1472 = .ok (.iadd, 1) := zq_0 zo_96 zkL_law_1472 0 rfl rfl
theorem dL_law_1473 : decode cL_law 1473 = .ok (.iaload, 1) := zq_0 zo_46 zkL_law_1472 1 rfl rfl
theorem dL_law_1474 : decode cL_law 1474 = .ok (.aload_n 0, 1) := zq_0 zo_42 zkL_law_1472 2 rfl rfl
theorem dL_law_1475 : decode cL_law 1475 = .ok (.iload_n 3, 1) := zq_0 zo_29 zkL_law_1472 3 rfl rfl
theorem dL_law_1476 : decode cL_law 1476 = .ok (.iconst 3, 1) := zq_0 zo_6 zkL_law_1472 4 rfl rfl
theorem dL_law_1477 : decode cL_law 1477 = .ok (.iadd, 1) := zq_0 zo_96 zkL_law_1472 5 rfl rfl
theorem dL_law_1478 : decode cL_law 1478 = .ok (.iaload, 1) := zq_0 zo_46 zkL_law_1472 6 rfl rfl
theorem dL_law_1479 : decode cL_law 1479 = .ok (.invokevirtual 121, 3) := zq_2 zo_182 zkL_law_1472 7 rfl rfl 0 121 rfl rfl _ rfl
theorem dL_law_1482 : decode cL_law 1482 = .ok (.pop, 1) := zq_0 zo_87 zkL_law_1472 10 rfl rfl
theorem dL_law_1483 : decode cL_law 1483 = .ok (.aload_n 2, 1) := zq_0 zo_44 zkL_law_1472 11 rfl rfl
theorem dL_law_1484 : decode cL_law 1484 = .ok (.aload_n 0, 1) := zq_0 zo_42 zkL_law_1472 12 rfl rfl
theorem dL_law_1485 : decode cL_law 1485 = .ok (.iload_n 3, 1) := zq_0 zo_29 zkL_law_1472 13 rfl rfl
theorem dL_law_1486 : decode cL_law 1486 = .ok (.iconst 1, 1) := zq_0 zo_4 zkL_law_1472 14 rfl rfl
theorem dL_law_1487 : decode cL_law 1487 = .ok (.iadd, 1) := zq_0 zo_96 zkL_law_1472 15 rfl rfl
theorem dL_law_1488 : decode cL_law 1488 = .ok (.iaload, 1) := zq_0 zo_46 zkL_law_1472 16 rfl rfl
theorem dL_law_1489 : decode cL_law 1489 = .ok (.aload_n 0, 1) := zq_0 zo_42 zkL_law_1472 17 rfl rfl
theorem dL_law_1490 : decode cL_law 1490 = .ok (.iload_n 3, 1) := zq_0 zo_29 zkL_law_1472 18 rfl rfl
theorem dL_law_1491 : decode cL_law 1491 = .ok (.iconst 2, 1) := zq_0 zo_5 zkL_law_1472 19 rfl rfl
theorem dL_law_1492 : decode cL_law 1492 = .ok (.iadd, 1) := zq_0 zo_96 zkL_law_1472 20 rfl rfl
theorem dL_law_1493 : decode cL_law 1493 = .ok (.iaload, 1) := zq_0 zo_46 zkL_law_1472 21 rfl rfl
theorem dL_law_1494 : decode cL_law 1494 = .ok (.aload_n 0, 1) := zq_0 zo_42 zkL_law_1472 22 rfl rfl
theorem dL_law_1495 : decode cL_law 1495 = .ok (.iload_n 3, 1) := zq_0 zo_29 zkL_law_1472 23 rfl rfl
theorem dL_law_1496 : decode cL_law 1496 = .ok (.iconst 3, 1) := zq_0 zo_6 zkL_law_1472 24 rfl rfl
theorem dL_law_1497 : decode cL_law 1497 = .ok (.iadd, 1) := zq_0 zo_96 zkL_law_1472 25 rfl rfl
theorem dL_law_1498 : decode cL_law 1498 = .ok (.iaload, 1) := zq_0 zo_46 zkL_law_1472 26 rfl rfl
theorem dL_law_1499 : decode cL_law 1499 = .ok (.invokevirtual 124, 3) := zq_2 zo_182 zkL_law_1472 27 rfl rfl 0 124 rfl rfl _ rfl
theorem dL_law_1502 : decode cL_law 1502 = .ok (.pop, 1) := zq_0 zo_87 zkL_law_1472 30 rfl rfl
theorem dL_law_1503 : decode cL_law 1503 = .ok (.goto 333, 3) := zq_2s zo_167 zkL_law_1472 31 rfl rfl 1 77 rfl rfl _ (by decide +kernel)
theorem zkL_law_1504 : zqc cL_law 1504 [1, 77, 43, 42, 29, 4, 96, 46, 42, 29, 5, 96, 46, 42, 29, 6, 96, 46, 182, 0, 125, 44, 42, 29, 4, 96, 46, 42, 29, 5, 96, 46, 42, 29] := zq_of 34 (by decide +kernel)
theorem dL_law_1506 : decode cL_law 1506 = .ok (.aload_n 1, 1) := zq_0 zo_43 zkL_law_1504 2 rfl rfl
theorem dL_law_1507 : decode cL_law 1507 = .ok (.aload_n 0, 1) := zq_0 zo_42 zkL_law_1504 3 rfl rfl
theorem dL_law_1508 : decode cL_law 1508 = .ok (.iload_n 3, 1) := zq_0 zo_29 zkL_law_1504 4 rfl rfl
theorem dL_law_1509 : decode cL_law 1509 = .ok (.iconst 1, 1) := zq_0 zo_4 zkL_law_1504 5 rfl rfl
theorem dL_law_1510 : decode cL_law 1510 = .ok (.iadd, 1) := zq_0 zo_96 zkL_law_1504 6 rfl rfl
theorem dL_law_1511 : decode cL_law 1511 = .ok (.iaload, 1) := zq_0 zo_46 zkL_law_1504 7 rfl rfl
theorem dL_law_1512 : decode cL_law 1512 = .ok (.aload_n 0, 1) := zq_0 zo_42 zkL_law_1504 8 rfl rfl
theorem dL_law_1513 : decode cL_law 1513 = .ok (.iload_n 3, 1) := zq_0 zo_29 zkL_law_1504 9 rfl rfl
theorem dL_law_1514 : decode cL_law 1514 = .ok (.iconst 2, 1) := zq_0 zo_5 zkL_law_1504 10 rfl rfl
theorem dL_law_1515 : decode cL_law 1515 = .ok (.iadd, 1) := zq_0 zo_96 zkL_law_1504 11 rfl rfl
theorem dL_law_1516 : decode cL_law 1516 = .ok (.iaload, 1) := zq_0 zo_46 zkL_law_1504 12 rfl rfl
theorem dL_law_1517 : decode cL_law 1517 = .ok (.aload_n 0, 1) := zq_0 zo_42 zkL_law_1504 13 rfl rfl
theorem dL_law_1518 : decode cL_law 1518 = .ok (.iload_n 3, 1) := zq_0 zo_29 zkL_law_1504 14 rfl rfl
theorem dL_law_1519 : decode cL_law 1519 = .ok (.iconst 3, 1) := zq_0 zo_6 zkL_law_1504 15 rfl rfl
theorem dL_law_1520 : decode cL_law 1520 = .ok (.iadd, 1) := zq_0 zo_96 zkL_law_1504 16 rfl rfl
theorem dL_law_1521 : decode cL_law 1521 = .ok (.iaload, 1) := zq_0 zo_46 zkL_law_1504 17 rfl rfl
theorem dL_law_1522 : decode cL_law 1522 = .ok (.invokevirtual 125, 3) := zq_2 zo_182 zkL_law_1504 18 rfl rfl 0 125 rfl rfl _ rfl
theorem dL_law_1525 : decode cL_law 1525 = .ok (.aload_n 2, 1) := zq_0 zo_44 zkL_law_1504 21 rfl rfl
theorem dL_law_1526 : decode cL_law 1526 = .ok (.aload_n 0, 1) := zq_0 zo_42 zkL_law_1504 22 rfl rfl
theorem dL_law_1527 : decode cL_law 1527 = .ok (.iload_n 3, 1) := zq_0 zo_29 zkL_law_1504 23 rfl rfl
theorem dL_law_1528 : decode cL_law 1528 = .ok (.iconst 1, 1) := zq_0 zo_4 zkL_law_1504 24 rfl rfl
theorem dL_law_1529 : decode cL_law 1529 = .ok (.iadd, 1) := zq_0 zo_96 zkL_law_1504 25 rfl rfl
theorem dL_law_1530 : decode cL_law 1530 = .ok (.iaload, 1) := zq_0 zo_46 zkL_law_1504 26 rfl rfl
theorem dL_law_1531 : decode cL_law 1531 = .ok (.aload_n 0, 1) := zq_0 zo_42 zkL_law_1504 27 rfl rfl
theorem dL_law_1532 : decode cL_law 1532 = .ok (.iload_n 3, 1) := zq_0 zo_29 zkL_law_1504 28 rfl rfl
theorem dL_law_1533 : decode cL_law 1533 = .ok (.iconst 2, 1) := zq_0 zo_5 zkL_law_1504 29 rfl rfl
theorem dL_law_1534 : decode cL_law 1534 = .ok (.iadd, 1) := zq_0 zo_96 zkL_law_1504 30 rfl rfl
theorem dL_law_1535 : decode cL_law 1535 = .ok (.iaload, 1) := zq_0 zo_46 zkL_law_1504 31 rfl rfl
theorem zkL_law_1536 : zqc cL_law 1536 [42, 29, 6, 96, 46, 182, 0, 128, 159, 1, 36, 3, 172, 43, 42, 29, 4, 96, 46, 42, 29, 5, 96, 46, 182, 0, 129, 87, 44, 42, 29, 4, 96, 46] := zq_of 34 (by decide +kernel)
theorem dL_law_1536 : decode cL_law 1536 = .ok (.aload_n 0, 1) := zq_0 zo_42 zkL_law_1536 0 rfl rfl
theorem dL_law_1537 : decode cL_law 1537 = .ok (.iload_n 3, 1) := zq_0 zo_29 zkL_law_1536 1 rfl rfl
theorem dL_law_1538 : decode cL_law 1538 = .ok (.iconst 3, 1) := zq_0 zo_6 zkL_law_1536 2 rfl rfl
theorem dL_law_1539 : decode cL_law 1539 = .ok (.iadd, 1) := zq_0 zo_96 zkL_law_1536 3 rfl rfl
theorem dL_law_1540 : decode cL_law 1540 = .ok (.iaload, 1) := zq_0 zo_46 zkL_law_1536 4 rfl rfl
theorem dL_law_1541 : decode cL_law 1541 = .ok (.invokevirtual 128, 3) := zq_2 zo_182 zkL_law_1536 5 rfl rfl 0 128 rfl rfl _ rfl
theorem dL_law_1544 : decode cL_law 1544 = .ok (.if_icmp .eq 292, 3) := zq_2s zo_159 zkL_law_1536 8 rfl rfl 1 36 rfl rfl _ (by decide +kernel)
theorem dL_law_1547 : decode cL_law 1547 = .ok (.iconst 0, 1) := zq_0 zo_3 zkL_law_1536 11 rfl rfl
theorem dL_law_1548 : decode cL_law 1548 = .ok (.ireturn, 1) := zq_0 zo_172 zkL_law_1536 12 rfl rfl
theorem dL_law_1549 : decode cL_law 1549 = .ok (.aload_n 1, 1) := zq_0 zo_43 zkL_law_1536 13 rfl rfl
theorem dL_law_1550 : decode cL_law 1550 = .ok (.aload_n 0, 1) := zq_0 zo_42 zkL_law_1536 14 rfl rfl
theorem dL_law_1551 : decode cL_law 1551 = .ok (.iload_n 3, 1) := zq_0 zo_29 zkL_law_1536 15 rfl rfl
theorem dL_law_1552 : decode cL_law 1552 = .ok (.iconst 1, 1) := zq_0 zo_4 zkL_law_1536 16 rfl rfl
theorem dL_law_1553 : decode cL_law 1553 = .ok (.iadd, 1) := zq_0 zo_96 zkL_law_1536 17 rfl rfl
theorem dL_law_1554 : decode cL_law 1554 = .ok (.iaload, 1) := zq_0 zo_46 zkL_law_1536 18 rfl rfl
theorem dL_law_1555 : decode cL_law 1555 = .ok (.aload_n 0, 1) := zq_0 zo_42 zkL_law_1536 19 rfl rfl
theorem dL_law_1556 : decode cL_law 1556 = .ok (.iload_n 3, 1) := zq_0 zo_29 zkL_law_1536 20 rfl rfl
theorem dL_law_1557 : decode cL_law 1557 = .ok (.iconst 2, 1) := zq_0 zo_5 zkL_law_1536 21 rfl rfl
theorem dL_law_1558 : decode cL_law 1558 = .ok (.iadd, 1) := zq_0 zo_96 zkL_law_1536 22 rfl rfl
theorem dL_law_1559 : decode cL_law 1559 = .ok (.iaload, 1) := zq_0 zo_46 zkL_law_1536 23 rfl rfl
theorem dL_law_1560 : decode cL_law 1560 = .ok (.invokevirtual 129, 3) := zq_2 zo_182 zkL_law_1536 24 rfl rfl 0 129 rfl rfl _ rfl
theorem dL_law_1563 : decode cL_law 1563 = .ok (.pop, 1) := zq_0 zo_87 zkL_law_1536 27 rfl rfl
theorem dL_law_1564 : decode cL_law 1564 = .ok (.aload_n 2, 1) := zq_0 zo_44 zkL_law_1536 28 rfl rfl
theorem dL_law_1565 : decode cL_law 1565 = .ok (.aload_n 0, 1) := zq_0 zo_42 zkL_law_1536 29 rfl rfl
theorem dL_law_1566 : decode cL_law 1566 = .ok (.iload_n 3, 1) := zq_0 zo_29 zkL_law_1536 30 rfl rfl
theorem dL_law_1567 : decode cL_law 1567 = .ok (.iconst 1, 1) := zq_0 zo_4 zkL_law_1536 31 rfl rfl
theorem zkL_law_1568 : zqc cL_law 1568 [96, 46, 42, 29, 5, 96, 46, 182, 0, 132, 87, 167, 1, 1, 43, 42, 29, 4, 96, 46, 42, 29, 5, 96, 46, 42, 29, 6, 96, 46, 42, 29, 7, 96] := zq_of 34 (by decide +kernel)
theorem dL_law_1568 : decode cL_law 1568 = .ok (.iadd, 1) := zq_0 zo_96 zkL_law_1568 0 rfl rfl
theorem dL_law_1569 : decode cL_law 1569 = .ok (.iaload, 1) := zq_0 zo_46 zkL_law_1568 1 rfl rfl
theorem dL_law_1570 : decode cL_law 1570 = .ok (.aload_n 0, 1) := zq_0 zo_42 zkL_law_1568 2 rfl rfl
theorem dL_law_1571 : decode cL_law 1571 = .ok (.iload_n 3, 1) := zq_0 zo_29 zkL_law_1568 3 rfl rfl
theorem dL_law_1572 : decode cL_law 1572 = .ok (.iconst 2, 1) := zq_0 zo_5 zkL_law_1568 4 rfl rfl
theorem dL_law_1573 : decode cL_law 1573 = .ok (.iadd, 1) := zq_0 zo_96 zkL_law_1568 5 rfl rfl
theorem dL_law_1574 : decode cL_law 1574 = .ok (.iaload, 1) := zq_0 zo_46 zkL_law_1568 6 rfl rfl
theorem dL_law_1575 : decode cL_law 1575 = .ok (.invokevirtual 132, 3) := zq_2 zo_182 zkL_law_1568 7 rfl rfl 0 132 rfl rfl _ rfl
theorem dL_law_1578 : decode cL_law 1578 = .ok (.pop, 1) := zq_0 zo_87 zkL_law_1568 10 rfl rfl
theorem dL_law_1579 : decode cL_law 1579 = .ok (.goto 257, 3) := zq_2s zo_167 zkL_law_1568 11 rfl rfl 1 1 rfl rfl _ (by decide +kernel)
theorem dL_law_1582 : decode cL_law 1582 = .ok (.aload_n 1, 1) := zq_0 zo_43 zkL_law_1568 14 rfl rfl
theorem dL_law_1583 : decode cL_law 1583 = .ok (.aload_n 0, 1) := zq_0 zo_42 zkL_law_1568 15 rfl rfl
theorem dL_law_1584 : decode cL_law 1584 = .ok (.iload_n 3, 1) := zq_0 zo_29 zkL_law_1568 16 rfl rfl
theorem dL_law_1585 : decode cL_law 1585 = .ok (.iconst 1, 1) := zq_0 zo_4 zkL_law_1568 17 rfl rfl
theorem dL_law_1586 : decode cL_law 1586 = .ok (.iadd, 1) := zq_0 zo_96 zkL_law_1568 18 rfl rfl
theorem dL_law_1587 : decode cL_law 1587 = .ok (.iaload, 1) := zq_0 zo_46 zkL_law_1568 19 rfl rfl
theorem dL_law_1588 : decode cL_law 1588 = .ok (.aload_n 0, 1) := zq_0 zo_42 zkL_law_1568 20 rfl rfl
theorem dL_law_1589 : decode cL_law 1589 = .ok (.iload_n 3, 1) := zq_0 zo_29 zkL_law_1568 21 rfl rfl
theorem dL_law_1590 : decode cL_law 1590 = .ok (.iconst 2, 1) := zq_0 zo_5 zkL_law_1568 22 rfl rfl
theorem dL_law_1591 : decode cL_law 1591 = .ok (.iadd, 1) := zq_0 zo_96 zkL_law_1568 23 rfl rfl
theorem dL_law_1592 : decode cL_law 1592 = .ok (.iaload, 1) := zq_0 zo_46 zkL_law_1568 24 rfl rfl
theorem dL_law_1593 : decode cL_law 1593 = .ok (.aload_n 0, 1) := zq_0 zo_42 zkL_law_1568 25 rfl rfl
theorem dL_law_1594 : decode cL_law 1594 = .ok (.iload_n 3, 1) := zq_0 zo_29 zkL_law_1568 26 rfl rfl
theorem dL_law_1595 : decode cL_law 1595 = .ok (.iconst 3, 1) := zq_0 zo_6 zkL_law_1568 27 rfl rfl
theorem dL_law_1596 : decode cL_law 1596 = .ok (.iadd, 1) := zq_0 zo_96 zkL_law_1568 28 rfl rfl
theorem dL_law_1597 : decode cL_law 1597 = .ok (.iaload, 1) := zq_0 zo_46 zkL_law_1568 29 rfl rfl
theorem dL_law_1598 : decode cL_law 1598 = .ok (.aload_n 0, 1) := zq_0 zo_42 zkL_law_1568 30 rfl rfl
theorem dL_law_1599 : decode cL_law 1599 = .ok (.iload_n 3, 1) := zq_0 zo_29 zkL_law_1568 31 rfl rfl
theorem zkL_law_1600 : zqc cL_law 1600 [7, 96, 46, 153, 0, 7, 4, 167, 0, 4, 3, 182, 0, 133, 87, 44, 42, 29, 4, 96, 46, 42, 29, 5, 96, 46, 42, 29, 6, 96, 46, 42, 29, 7] := zq_of 34 (by decide +kernel)
theorem dL_law_1600 : decode cL_law 1600 = .ok (.iconst 4, 1) := zq_0 zo_7 zkL_law_1600 0 rfl rfl
theorem dL_law_1601 : decode cL_law 1601 = .ok (.iadd, 1) := zq_0 zo_96 zkL_law_1600 1 rfl rfl
theorem dL_law_1602 : decode cL_law 1602 = .ok (.iaload, 1) := zq_0 zo_46 zkL_law_1600 2 rfl rfl
theorem dL_law_1603 : decode cL_law 1603 = .ok (.ifCond .eq 7, 3) := zq_2s zo_153 zkL_law_1600 3 rfl rfl 0 7 rfl rfl _ (by decide +kernel)
theorem dL_law_1606 : decode cL_law 1606 = .ok (.iconst 1, 1) := zq_0 zo_4 zkL_law_1600 6 rfl rfl
theorem dL_law_1607 : decode cL_law 1607 = .ok (.goto 4, 3) := zq_2s zo_167 zkL_law_1600 7 rfl rfl 0 4 rfl rfl _ (by decide +kernel)
theorem dL_law_1610 : decode cL_law 1610 = .ok (.iconst 0, 1) := zq_0 zo_3 zkL_law_1600 10 rfl rfl
theorem dL_law_1611 : decode cL_law 1611 = .ok (.invokevirtual 133, 3) := zq_2 zo_182 zkL_law_1600 11 rfl rfl 0 133 rfl rfl _ rfl
theorem dL_law_1614 : decode cL_law 1614 = .ok (.pop, 1) := zq_0 zo_87 zkL_law_1600 14 rfl rfl
theorem dL_law_1615 : decode cL_law 1615 = .ok (.aload_n 2, 1) := zq_0 zo_44 zkL_law_1600 15 rfl rfl
theorem dL_law_1616 : decode cL_law 1616 = .ok (.aload_n 0, 1) := zq_0 zo_42 zkL_law_1600 16 rfl rfl
theorem dL_law_1617 : decode cL_law 1617 = .ok (.iload_n 3, 1) := zq_0 zo_29 zkL_law_1600 17 rfl rfl
theorem dL_law_1618 : decode cL_law 1618 = .ok (.iconst 1, 1) := zq_0 zo_4 zkL_law_1600 18 rfl rfl
theorem dL_law_1619 : decode cL_law 1619 = .ok (.iadd, 1) := zq_0 zo_96 zkL_law_1600 19 rfl rfl
theorem dL_law_1620 : decode cL_law 1620 = .ok (.iaload, 1) := zq_0 zo_46 zkL_law_1600 20 rfl rfl
theorem dL_law_1621 : decode cL_law 1621 = .ok (.aload_n 0, 1) := zq_0 zo_42 zkL_law_1600 21 rfl rfl
theorem dL_law_1622 : decode cL_law 1622 = .ok (.iload_n 3, 1) := zq_0 zo_29 zkL_law_1600 22 rfl rfl
theorem dL_law_1623 : decode cL_law 1623 = .ok (.iconst 2, 1) := zq_0 zo_5 zkL_law_1600 23 rfl rfl
theorem dL_law_1624 : decode cL_law 1624 = .ok (.iadd, 1) := zq_0 zo_96 zkL_law_1600 24 rfl rfl
theorem dL_law_1625 : decode cL_law 1625 = .ok (.iaload, 1) := zq_0 zo_46 zkL_law_1600 25 rfl rfl
theorem dL_law_1626 : decode cL_law 1626 = .ok (.aload_n 0, 1) := zq_0 zo_42 zkL_law_1600 26 rfl rfl
theorem dL_law_1627 : decode cL_law 1627 = .ok (.iload_n 3, 1) := zq_0 zo_29 zkL_law_1600 27 rfl rfl
theorem dL_law_1628 : decode cL_law 1628 = .ok (.iconst 3, 1) := zq_0 zo_6 zkL_law_1600 28 rfl rfl
theorem dL_law_1629 : decode cL_law 1629 = .ok (.iadd, 1) := zq_0 zo_96 zkL_law_1600 29 rfl rfl
theorem dL_law_1630 : decode cL_law 1630 = .ok (.iaload, 1) := zq_0 zo_46 zkL_law_1600 30 rfl rfl
theorem dL_law_1631 : decode cL_law 1631 = .ok (.aload_n 0, 1) := zq_0 zo_42 zkL_law_1600 31 rfl rfl
theorem zkL_law_1632 : zqc cL_law 1632 [29, 7, 96, 46, 153, 0, 7, 4, 167, 0, 4, 3, 182, 0, 136, 87, 167, 0, 188, 43, 42, 29, 4, 96, 46, 42, 29, 5, 96, 46, 42, 29, 6, 96] := zq_of 34 (by decide +kernel)
theorem dL_law_1632 : decode cL_law 1632 = .ok (.iload_n 3, 1) := zq_0 zo_29 zkL_law_1632 0 rfl rfl
theorem dL_law_1633 : decode cL_law 1633 = .ok (.iconst 4, 1) := zq_0 zo_7 zkL_law_1632 1 rfl rfl
theorem dL_law_1634 : decode cL_law 1634 = .ok (.iadd, 1) := zq_0 zo_96 zkL_law_1632 2 rfl rfl
theorem dL_law_1635 : decode cL_law 1635 = .ok (.iaload, 1) := zq_0 zo_46 zkL_law_1632 3 rfl rfl
theorem dL_law_1636 : decode cL_law 1636 = .ok (.ifCond .eq 7, 3) := zq_2s zo_153 zkL_law_1632 4 rfl rfl 0 7 rfl rfl _ (by decide +kernel)
theorem dL_law_1639 : decode cL_law 1639 = .ok (.iconst 1, 1) := zq_0 zo_4 zkL_law_1632 7 rfl rfl
theorem dL_law_1640 : decode cL_law 1640 = .ok (.goto 4, 3) := zq_2s zo_167 zkL_law_1632 8 rfl rfl 0 4 rfl rfl _ (by decide +kernel)
theorem dL_law_1643 : decode cL_law 1643 = .ok (.iconst 0, 1) := zq_0 zo_3 zkL_law_1632 11 rfl rfl
theorem dL_law_1644 : decode cL_law 1644 = .ok (.invokevirtual 136, 3) := zq_2 zo_182 zkL_law_1632 12 rfl rfl 0 136 rfl rfl _ rfl
theorem dL_law_1647 : decode cL_law 1647 = .ok (.pop, 1) := zq_0 zo_87 zkL_law_1632 15 rfl rfl
theorem dL_law_1648 : decode cL_law 1648 = .ok (.goto 188, 3) := zq_2s zo_167 zkL_law_1632 16 rfl rfl 0 188 rfl rfl _ (by decide +kernel)
theorem dL_law_1651 : decode cL_law 1651 = .ok (.aload_n 1, 1) := zq_0 zo_43 zkL_law_1632 19 rfl rfl
theorem dL_law_1652 : decode cL_law 1652 = .ok (.aload_n 0, 1) := zq_0 zo_42 zkL_law_1632 20 rfl rfl
theorem dL_law_1653 : decode cL_law 1653 = .ok (.iload_n 3, 1) := zq_0 zo_29 zkL_law_1632 21 rfl rfl
theorem dL_law_1654 : decode cL_law 1654 = .ok (.iconst 1, 1) := zq_0 zo_4 zkL_law_1632 22 rfl rfl
theorem dL_law_1655 : decode cL_law 1655 = .ok (.iadd, 1) := zq_0 zo_96 zkL_law_1632 23 rfl rfl
theorem dL_law_1656 : decode cL_law 1656 = .ok (.iaload, 1) := zq_0 zo_46 zkL_law_1632 24 rfl rfl
theorem dL_law_1657 : decode cL_law 1657 = .ok (.aload_n 0, 1) := zq_0 zo_42 zkL_law_1632 25 rfl rfl
theorem dL_law_1658 : decode cL_law 1658 = .ok (.iload_n 3, 1) := zq_0 zo_29 zkL_law_1632 26 rfl rfl
theorem dL_law_1659 : decode cL_law 1659 = .ok (.iconst 2, 1) := zq_0 zo_5 zkL_law_1632 27 rfl rfl
theorem dL_law_1660 : decode cL_law 1660 = .ok (.iadd, 1) := zq_0 zo_96 zkL_law_1632 28 rfl rfl
theorem dL_law_1661 : decode cL_law 1661 = .ok (.iaload, 1) := zq_0 zo_46 zkL_law_1632 29 rfl rfl
theorem dL_law_1662 : decode cL_law 1662 = .ok (.aload_n 0, 1) := zq_0 zo_42 zkL_law_1632 30 rfl rfl
theorem dL_law_1663 : decode cL_law 1663 = .ok (.iload_n 3, 1) := zq_0 zo_29 zkL_law_1632 31 rfl rfl
theorem zkL_law_1664 : zqc cL_law 1664 [6, 96, 46, 42, 29, 7, 96, 46, 42, 29, 8, 96, 46, 182, 0, 137, 87, 44, 42, 29, 4, 96, 46, 42, 29, 5, 96, 46, 42, 29, 6, 96, 46, 42] := zq_of 34 (by decide +kernel)
theorem dL_law_1664 : decode cL_law 1664 = .ok (.iconst 3, 1) := zq_0 zo_6 zkL_law_1664 0 rfl rfl
theorem dL_law_1665 : decode cL_law 1665 = .ok (.iadd, 1) := zq_0 zo_96 zkL_law_1664 1 rfl rfl
theorem dL_law_1666 : decode cL_law 1666 = .ok (.iaload, 1) := zq_0 zo_46 zkL_law_1664 2 rfl rfl
theorem dL_law_1667 : decode cL_law 1667 = .ok (.aload_n 0, 1) := zq_0 zo_42 zkL_law_1664 3 rfl rfl
theorem dL_law_1668 : decode cL_law 1668 = .ok (.iload_n 3, 1) := zq_0 zo_29 zkL_law_1664 4 rfl rfl
theorem dL_law_1669 : decode cL_law 1669 = .ok (.iconst 4, 1) := zq_0 zo_7 zkL_law_1664 5 rfl rfl
theorem dL_law_1670 : decode cL_law 1670 = .ok (.iadd, 1) := zq_0 zo_96 zkL_law_1664 6 rfl rfl
theorem dL_law_1671 : decode cL_law 1671 = .ok (.iaload, 1) := zq_0 zo_46 zkL_law_1664 7 rfl rfl
theorem dL_law_1672 : decode cL_law 1672 = .ok (.aload_n 0, 1) := zq_0 zo_42 zkL_law_1664 8 rfl rfl
theorem dL_law_1673 : decode cL_law 1673 = .ok (.iload_n 3, 1) := zq_0 zo_29 zkL_law_1664 9 rfl rfl
theorem dL_law_1674 : decode cL_law 1674 = .ok (.iconst 5, 1) := zq_0 zo_8 zkL_law_1664 10 rfl rfl
theorem dL_law_1675 : decode cL_law 1675 = .ok (.iadd, 1) := zq_0 zo_96 zkL_law_1664 11 rfl rfl
theorem dL_law_1676 : decode cL_law 1676 = .ok (.iaload, 1) := zq_0 zo_46 zkL_law_1664 12 rfl rfl
theorem dL_law_1677 : decode cL_law 1677 = .ok (.invokevirtual 137, 3) := zq_2 zo_182 zkL_law_1664 13 rfl rfl 0 137 rfl rfl _ rfl
theorem dL_law_1680 : decode cL_law 1680 = .ok (.pop, 1) := zq_0 zo_87 zkL_law_1664 16 rfl rfl
theorem dL_law_1681 : decode cL_law 1681 = .ok (.aload_n 2, 1) := zq_0 zo_44 zkL_law_1664 17 rfl rfl
theorem dL_law_1682 : decode cL_law 1682 = .ok (.aload_n 0, 1) := zq_0 zo_42 zkL_law_1664 18 rfl rfl
theorem dL_law_1683 : decode cL_law 1683 = .ok (.iload_n 3, 1) := zq_0 zo_29 zkL_law_1664 19 rfl rfl
theorem dL_law_1684 : decode cL_law 1684 = .ok (.iconst 1, 1) := zq_0 zo_4 zkL_law_1664 20 rfl rfl
theorem dL_law_1685 : decode cL_law 1685 = .ok (.iadd, 1) := zq_0 zo_96 zkL_law_1664 21 rfl rfl
theorem dL_law_1686 : decode cL_law 1686 = .ok (.iaload, 1) := zq_0 zo_46 zkL_law_1664 22 rfl rfl
theorem dL_law_1687 : decode cL_law 1687 = .ok (.aload_n 0, 1) := zq_0 zo_42 zkL_law_1664 23 rfl rfl
theorem dL_law_1688 : decode cL_law 1688 = .ok (.iload_n 3, 1) := zq_0 zo_29 zkL_law_1664 24 rfl rfl
theorem dL_law_1689 : decode cL_law 1689 = .ok (.iconst 2, 1) := zq_0 zo_5 zkL_law_1664 25 rfl rfl
theorem dL_law_1690 : decode cL_law 1690 = .ok (.iadd, 1) := zq_0 zo_96 zkL_law_1664 26 rfl rfl
theorem dL_law_1691 : decode cL_law 1691 = .ok (.iaload, 1) := zq_0 zo_46 zkL_law_1664 27 rfl rfl
theorem dL_law_1692 : decode cL_law 1692 = .ok (.aload_n 0, 1) := zq_0 zo_42 zkL_law_1664 28 rfl rfl
theorem dL_law_1693 : decode cL_law 1693 = .ok (.iload_n 3, 1) := zq_0 zo_29 zkL_law_1664 29 rfl rfl
theorem dL_law_1694 : decode cL_law 1694 = .ok (.iconst 3, 1) := zq_0 zo_6 zkL_law_1664 30 rfl rfl
theorem dL_law_1695 : decode cL_law 1695 = .ok (.iadd, 1) := zq_0 zo_96 zkL_law_1664 31 rfl rfl
theorem zkL_law_1696 : zqc cL_law 1696 [46, 42, 29, 7, 96, 46, 42, 29, 8, 96, 46, 182, 0, 140, 87, 167, 0, 125, 43, 42, 29, 4, 96, 46, 42, 29, 5, 96, 46, 42, 29, 6, 96, 46] := zq_of 34 (by decide +kernel)
theorem dL_law_1696 : decode cL_law 1696 = .ok (.iaload, 1) := zq_0 zo_46 zkL_law_1696 0 rfl rfl
theorem dL_law_1697 : decode cL_law 1697 = .ok (.aload_n 0, 1) := zq_0 zo_42 zkL_law_1696 1 rfl rfl
theorem dL_law_1698 : decode cL_law 1698 = .ok (.iload_n 3, 1) := zq_0 zo_29 zkL_law_1696 2 rfl rfl
theorem dL_law_1699 : decode cL_law 1699 = .ok (.iconst 4, 1) := zq_0 zo_7 zkL_law_1696 3 rfl rfl
theorem dL_law_1700 : decode cL_law 1700 = .ok (.iadd, 1) := zq_0 zo_96 zkL_law_1696 4 rfl rfl
theorem dL_law_1701 : decode cL_law 1701 = .ok (.iaload, 1) := zq_0 zo_46 zkL_law_1696 5 rfl rfl
theorem dL_law_1702 : decode cL_law 1702 = .ok (.aload_n 0, 1) := zq_0 zo_42 zkL_law_1696 6 rfl rfl
theorem dL_law_1703 : decode cL_law 1703 = .ok (.iload_n 3, 1) := zq_0 zo_29 zkL_law_1696 7 rfl rfl
theorem dL_law_1704 : decode cL_law 1704 = .ok (.iconst 5, 1) := zq_0 zo_8 zkL_law_1696 8 rfl rfl
theorem dL_law_1705 : decode cL_law 1705 = .ok (.iadd, 1) := zq_0 zo_96 zkL_law_1696 9 rfl rfl
theorem dL_law_1706 : decode cL_law 1706 = .ok (.iaload, 1) := zq_0 zo_46 zkL_law_1696 10 rfl rfl
theorem dL_law_1707 : decode cL_law 1707 = .ok (.invokevirtual 140, 3) := zq_2 zo_182 zkL_law_1696 11 rfl rfl 0 140 rfl rfl _ rfl
theorem dL_law_1710 : decode cL_law 1710 = .ok (.pop, 1) := zq_0 zo_87 zkL_law_1696 14 rfl rfl
theorem dL_law_1711 : decode cL_law 1711 = .ok (.goto 125, 3) := zq_2s zo_167 zkL_law_1696 15 rfl rfl 0 125 rfl rfl _ (by decide +kernel)
theorem dL_law_1714 : decode cL_law 1714 = .ok (.aload_n 1, 1) := zq_0 zo_43 zkL_law_1696 18 rfl rfl
theorem dL_law_1715 : decode cL_law 1715 = .ok (.aload_n 0, 1) := zq_0 zo_42 zkL_law_1696 19 rfl rfl
theorem dL_law_1716 : decode cL_law 1716 = .ok (.iload_n 3, 1) := zq_0 zo_29 zkL_law_1696 20 rfl rfl
theorem dL_law_1717 : decode cL_law 1717 = .ok (.iconst 1, 1) := zq_0 zo_4 zkL_law_1696 21 rfl rfl
theorem dL_law_1718 : decode cL_law 1718 = .ok (.iadd, 1) := zq_0 zo_96 zkL_law_1696 22 rfl rfl
theorem dL_law_1719 : decode cL_law 1719 = .ok (.iaload, 1) := zq_0 zo_46 zkL_law_1696 23 rfl rfl
theorem dL_law_1720 : decode cL_law 1720 = .ok (.aload_n 0, 1) := zq_0 zo_42 zkL_law_1696 24 rfl rfl
theorem dL_law_1721 : decode cL_law 1721 = .ok (.iload_n 3, 1) := zq_0 zo_29 zkL_law_1696 25 rfl rfl
theorem dL_law_1722 : decode cL_law 1722 = .ok (.iconst 2, 1) := zq_0 zo_5 zkL_law_1696 26 rfl rfl
theorem dL_law_1723 : decode cL_law 1723 = .ok (.iadd, 1) := zq_0 zo_96 zkL_law_1696 27 rfl rfl
theorem dL_law_1724 : decode cL_law 1724 = .ok (.iaload, 1) := zq_0 zo_46 zkL_law_1696 28 rfl rfl
theorem dL_law_1725 : decode cL_law 1725 = .ok (.aload_n 0, 1) := zq_0 zo_42 zkL_law_1696 29 rfl rfl
theorem dL_law_1726 : decode cL_law 1726 = .ok (.iload_n 3, 1) := zq_0 zo_29 zkL_law_1696 30 rfl rfl
theorem dL_law_1727 : decode cL_law 1727 = .ok (.iconst 3, 1) := zq_0 zo_6 zkL_law_1696 31 rfl rfl
theorem zkL_law_1728 : zqc cL_law 1728 [96, 46, 42, 29, 7, 96, 46, 182, 0, 141, 87, 44, 42, 29, 4, 96, 46, 42, 29, 5, 96, 46, 42, 29, 6, 96, 46, 42, 29, 7, 96, 46, 182, 0] := zq_of 34 (by decide +kernel)
theorem dL_law_1728 : decode cL_law 1728 = .ok (.iadd, 1) := zq_0 zo_96 zkL_law_1728 0 rfl rfl
theorem dL_law_1729 : decode cL_law 1729 = .ok (.iaload, 1) := zq_0 zo_46 zkL_law_1728 1 rfl rfl
theorem dL_law_1730 : decode cL_law 1730 = .ok (.aload_n 0, 1) := zq_0 zo_42 zkL_law_1728 2 rfl rfl
theorem dL_law_1731 : decode cL_law 1731 = .ok (.iload_n 3, 1) := zq_0 zo_29 zkL_law_1728 3 rfl rfl
theorem dL_law_1732 : decode cL_law 1732 = .ok (.iconst 4, 1) := zq_0 zo_7 zkL_law_1728 4 rfl rfl
theorem dL_law_1733 : decode cL_law 1733 = .ok (.iadd, 1) := zq_0 zo_96 zkL_law_1728 5 rfl rfl
theorem dL_law_1734 : decode cL_law 1734 = .ok (.iaload, 1) := zq_0 zo_46 zkL_law_1728 6 rfl rfl
theorem dL_law_1735 : decode cL_law 1735 = .ok (.invokevirtual 141, 3) := zq_2 zo_182 zkL_law_1728 7 rfl rfl 0 141 rfl rfl _ rfl
theorem dL_law_1738 : decode cL_law 1738 = .ok (.pop, 1) := zq_0 zo_87 zkL_law_1728 10 rfl rfl
theorem dL_law_1739 : decode cL_law 1739 = .ok (.aload_n 2, 1) := zq_0 zo_44 zkL_law_1728 11 rfl rfl
theorem dL_law_1740 : decode cL_law 1740 = .ok (.aload_n 0, 1) := zq_0 zo_42 zkL_law_1728 12 rfl rfl
theorem dL_law_1741 : decode cL_law 1741 = .ok (.iload_n 3, 1) := zq_0 zo_29 zkL_law_1728 13 rfl rfl
theorem dL_law_1742 : decode cL_law 1742 = .ok (.iconst 1, 1) := zq_0 zo_4 zkL_law_1728 14 rfl rfl
theorem dL_law_1743 : decode cL_law 1743 = .ok (.iadd, 1) := zq_0 zo_96 zkL_law_1728 15 rfl rfl
theorem dL_law_1744 : decode cL_law 1744 = .ok (.iaload, 1) := zq_0 zo_46 zkL_law_1728 16 rfl rfl
theorem dL_law_1745 : decode cL_law 1745 = .ok (.aload_n 0, 1) := zq_0 zo_42 zkL_law_1728 17 rfl rfl
theorem dL_law_1746 : decode cL_law 1746 = .ok (.iload_n 3, 1) := zq_0 zo_29 zkL_law_1728 18 rfl rfl
theorem dL_law_1747 : decode cL_law 1747 = .ok (.iconst 2, 1) := zq_0 zo_5 zkL_law_1728 19 rfl rfl
theorem dL_law_1748 : decode cL_law 1748 = .ok (.iadd, 1) := zq_0 zo_96 zkL_law_1728 20 rfl rfl
theorem dL_law_1749 : decode cL_law 1749 = .ok (.iaload, 1) := zq_0 zo_46 zkL_law_1728 21 rfl rfl
theorem dL_law_1750 : decode cL_law 1750 = .ok (.aload_n 0, 1) := zq_0 zo_42 zkL_law_1728 22 rfl rfl
theorem dL_law_1751 : decode cL_law 1751 = .ok (.iload_n 3, 1) := zq_0 zo_29 zkL_law_1728 23 rfl rfl
theorem dL_law_1752 : decode cL_law 1752 = .ok (.iconst 3, 1) := zq_0 zo_6 zkL_law_1728 24 rfl rfl
theorem dL_law_1753 : decode cL_law 1753 = .ok (.iadd, 1) := zq_0 zo_96 zkL_law_1728 25 rfl rfl
theorem dL_law_1754 : decode cL_law 1754 = .ok (.iaload, 1) := zq_0 zo_46 zkL_law_1728 26 rfl rfl
theorem dL_law_1755 : decode cL_law 1755 = .ok (.aload_n 0, 1) := zq_0 zo_42 zkL_law_1728 27 rfl rfl
theorem dL_law_1756 : decode cL_law 1756 = .ok (.iload_n 3, 1) := zq_0 zo_29 zkL_law_1728 28 rfl rfl
theorem dL_law_1757 : decode cL_law 1757 = .ok (.iconst 4, 1) := zq_0 zo_7 zkL_law_1728 29 rfl rfl
theorem dL_law_1758 : decode cL_law 1758 = .ok (.iadd, 1) := zq_0 zo_96 zkL_law_1728 30 rfl rfl
theorem dL_law_1759 : decode cL_law 1759 = .ok (.iaload, 1) := zq_0 zo_46 zkL_law_1728 31 rfl rfl
theorem zkL_law_1760 : zqc cL_law 1760 [182, 0, 144, 87, 167, 0, 72, 43, 42, 29, 4, 96, 46, 182, 0, 145, 87, 44, 42, 29, 4, 96, 46, 182, 0, 148, 87, 167, 0, 49, 43, 42, 29, 4] := zq_of 34 (by decide +kernel)
theorem dL_law_1760 : decode cL_law 1760 = .ok (.invokevirtual 144, 3) := zq_2 zo_182 zkL_law_1760 0 rfl rfl 0 144 rfl rfl _ rfl
theorem dL_law_1763 : decode cL_law 1763 = .ok (.pop, 1) := zq_0 zo_87 zkL_law_1760 3 rfl rfl
theorem dL_law_1764 : decode cL_law 1764 = .ok (.goto 72, 3) := zq_2s zo_167 zkL_law_1760 4 rfl rfl 0 72 rfl rfl _ (by decide +kernel)
theorem dL_law_1767 : decode cL_law 1767 = .ok (.aload_n 1, 1) := zq_0 zo_43 zkL_law_1760 7 rfl rfl
theorem dL_law_1768 : decode cL_law 1768 = .ok (.aload_n 0, 1) := zq_0 zo_42 zkL_law_1760 8 rfl rfl
theorem dL_law_1769 : decode cL_law 1769 = .ok (.iload_n 3, 1) := zq_0 zo_29 zkL_law_1760 9 rfl rfl
theorem dL_law_1770 : decode cL_law 1770 = .ok (.iconst 1, 1) := zq_0 zo_4 zkL_law_1760 10 rfl rfl
theorem dL_law_1771 : decode cL_law 1771 = .ok (.iadd, 1) := zq_0 zo_96 zkL_law_1760 11 rfl rfl
theorem dL_law_1772 : decode cL_law 1772 = .ok (.iaload, 1) := zq_0 zo_46 zkL_law_1760 12 rfl rfl
theorem dL_law_1773 : decode cL_law 1773 = .ok (.invokevirtual 145, 3) := zq_2 zo_182 zkL_law_1760 13 rfl rfl 0 145 rfl rfl _ rfl
theorem dL_law_1776 : decode cL_law 1776 = .ok (.pop, 1) := zq_0 zo_87 zkL_law_1760 16 rfl rfl
theorem dL_law_1777 : decode cL_law 1777 = .ok (.aload_n 2, 1) := zq_0 zo_44 zkL_law_1760 17 rfl rfl
theorem dL_law_1778 : decode cL_law 1778 = .ok (.aload_n 0, 1) := zq_0 zo_42 zkL_law_1760 18 rfl rfl
theorem dL_law_1779 : decode cL_law 1779 = .ok (.iload_n 3, 1) := zq_0 zo_29 zkL_law_1760 19 rfl rfl
theorem dL_law_1780 : decode cL_law 1780 = .ok (.iconst 1, 1) := zq_0 zo_4 zkL_law_1760 20 rfl rfl
theorem dL_law_1781 : decode cL_law 1781 = .ok (.iadd, 1) := zq_0 zo_96 zkL_law_1760 21 rfl rfl
theorem dL_law_1782 : decode cL_law 1782 = .ok (.iaload, 1) := zq_0 zo_46 zkL_law_1760 22 rfl rfl
theorem dL_law_1783 : decode cL_law 1783 = .ok (.invokevirtual 148, 3) := zq_2 zo_182 zkL_law_1760 23 rfl rfl 0 148 rfl rfl _ rfl
theorem dL_law_1786 : decode cL_law 1786 = .ok (.pop, 1) := zq_0 zo_87 zkL_law_1760 26 rfl rfl
theorem dL_law_1787 : decode cL_law 1787 = .ok (.goto 49, 3) := zq_2s zo_167 zkL_law_1760 27 rfl rfl 0 49 rfl rfl _ (by decide +kernel)
theorem dL_law_1790 : decode cL_law 1790 = .ok (.aload_n 1, 1) := zq_0 zo_43 zkL_law_1760 30 rfl rfl
theorem dL_law_1791 : decode cL_law 1791 = .ok (.aload_n 0, 1) := zq_0 zo_42 zkL_law_1760 31 rfl rfl
theorem zkL_law_1792 : zqc cL_law 1792 [29, 4, 96, 46, 182, 0, 149, 87, 44, 42, 29, 4, 96, 46, 182, 0, 153, 87, 167, 0, 26, 43, 42, 29, 4, 96, 46, 182, 0, 154, 87, 44, 42, 29] := zq_of 34 (by decide +kernel)
theorem dL_law_1792 : decode cL_law 1792 = .ok (.iload_n 3, 1) := zq_0 zo_29 zkL_law_1792 0 rfl rfl
theorem dL_law_1793 : decode cL_law 1793 = .ok (.iconst 1, 1) := zq_0 zo_4 zkL_law_1792 1 rfl rfl
theorem dL_law_1794 : decode cL_law 1794 = .ok (.iadd, 1) := zq_0 zo_96 zkL_law_1792 2 rfl rfl
theorem dL_law_1795 : decode cL_law 1795 = .ok (.iaload, 1) := zq_0 zo_46 zkL_law_1792 3 rfl rfl
theorem dL_law_1796 : decode cL_law 1796 = .ok (.invokevirtual 149, 3) := zq_2 zo_182 zkL_law_1792 4 rfl rfl 0 149 rfl rfl _ rfl
theorem dL_law_1799 : decode cL_law 1799 = .ok (.pop, 1) := zq_0 zo_87 zkL_law_1792 7 rfl rfl
theorem dL_law_1800 : decode cL_law 1800 = .ok (.aload_n 2, 1) := zq_0 zo_44 zkL_law_1792 8 rfl rfl
theorem dL_law_1801 : decode cL_law 1801 = .ok (.aload_n 0, 1) := zq_0 zo_42 zkL_law_1792 9 rfl rfl
theorem dL_law_1802 : decode cL_law 1802 = .ok (.iload_n 3, 1) := zq_0 zo_29 zkL_law_1792 10 rfl rfl
theorem dL_law_1803 : decode cL_law 1803 = .ok (.iconst 1, 1) := zq_0 zo_4 zkL_law_1792 11 rfl rfl
theorem dL_law_1804 : decode cL_law 1804 = .ok (.iadd, 1) := zq_0 zo_96 zkL_law_1792 12 rfl rfl
theorem dL_law_1805 : decode cL_law 1805 = .ok (.iaload, 1) := zq_0 zo_46 zkL_law_1792 13 rfl rfl
theorem dL_law_1806 : decode cL_law 1806 = .ok (.invokevirtual 153, 3) := zq_2 zo_182 zkL_law_1792 14 rfl rfl 0 153 rfl rfl _ rfl
theorem dL_law_1809 : decode cL_law 1809 = .ok (.pop, 1) := zq_0 zo_87 zkL_law_1792 17 rfl rfl
theorem dL_law_1810 : decode cL_law 1810 = .ok (.goto 26, 3) := zq_2s zo_167 zkL_law_1792 18 rfl rfl 0 26 rfl rfl _ (by decide +kernel)
theorem dL_law_1813 : decode cL_law 1813 = .ok (.aload_n 1, 1) := zq_0 zo_43 zkL_law_1792 21 rfl rfl
theorem dL_law_1814 : decode cL_law 1814 = .ok (.aload_n 0, 1) := zq_0 zo_42 zkL_law_1792 22 rfl rfl
theorem dL_law_1815 : decode cL_law 1815 = .ok (.iload_n 3, 1) := zq_0 zo_29 zkL_law_1792 23 rfl rfl
theorem dL_law_1816 : decode cL_law 1816 = .ok (.iconst 1, 1) := zq_0 zo_4 zkL_law_1792 24 rfl rfl
theorem dL_law_1817 : decode cL_law 1817 = .ok (.iadd, 1) := zq_0 zo_96 zkL_law_1792 25 rfl rfl
theorem dL_law_1818 : decode cL_law 1818 = .ok (.iaload, 1) := zq_0 zo_46 zkL_law_1792 26 rfl rfl
theorem dL_law_1819 : decode cL_law 1819 = .ok (.invokevirtual 154, 3) := zq_2 zo_182 zkL_law_1792 27 rfl rfl 0 154 rfl rfl _ rfl
theorem dL_law_1822 : decode cL_law 1822 = .ok (.pop, 1) := zq_0 zo_87 zkL_law_1792 30 rfl rfl
theorem dL_law_1823 : decode cL_law 1823 = .ok (.aload_n 2, 1) := zq_0 zo_44 zkL_law_1792 31 rfl rfl
theorem zkL_law_1824 : zqc cL_law 1824 [42, 29, 4, 96, 46, 182, 0, 157, 87, 167, 0, 3, 132, 3, 6, 167, 248, 227, 4, 172] := zq_of 20 (by decide +kernel)
theorem dL_law_1824 : decode cL_law 1824 = .ok (.aload_n 0, 1) := zq_0 zo_42 zkL_law_1824 0 rfl rfl
theorem dL_law_1825 : decode cL_law 1825 = .ok (.iload_n 3, 1) := zq_0 zo_29 zkL_law_1824 1 rfl rfl
theorem dL_law_1826 : decode cL_law 1826 = .ok (.iconst 1, 1) := zq_0 zo_4 zkL_law_1824 2 rfl rfl
theorem dL_law_1827 : decode cL_law 1827 = .ok (.iadd, 1) := zq_0 zo_96 zkL_law_1824 3 rfl rfl
theorem dL_law_1828 : decode cL_law 1828 = .ok (.iaload, 1) := zq_0 zo_46 zkL_law_1824 4 rfl rfl
theorem dL_law_1829 : decode cL_law 1829 = .ok (.invokevirtual 157, 3) := zq_2 zo_182 zkL_law_1824 5 rfl rfl 0 157 rfl rfl _ rfl
theorem dL_law_1832 : decode cL_law 1832 = .ok (.pop, 1) := zq_0 zo_87 zkL_law_1824 8 rfl rfl
theorem dL_law_1833 : decode cL_law 1833 = .ok (.goto 3, 3) := zq_2s zo_167 zkL_law_1824 9 rfl rfl 0 3 rfl rfl _ (by decide +kernel)
theorem dL_law_1836 : decode cL_law 1836 = .ok (.iinc 3 6, 3) := zq_ii zo_132 zkL_law_1824 12 rfl rfl 3 6 rfl rfl _ (by decide +kernel)
theorem dL_law_1839 : decode cL_law 1839 = .ok (.goto (-1821), 3) := zq_2s zo_167 zkL_law_1824 15 rfl rfl 248 227 rfl rfl _ (by decide +kernel)
theorem dL_law_1842 : decode cL_law 1842 = .ok (.iconst 1, 1) := zq_0 zo_4 zkL_law_1824 18 rfl rfl
theorem dL_law_1843 : decode cL_law 1843 = .ok (.ireturn, 1) := zq_0 zo_172 zkL_law_1824 19 rfl rfl
