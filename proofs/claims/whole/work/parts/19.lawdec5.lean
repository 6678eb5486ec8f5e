theorem d_L_law_971 : decode code 971 = .ok (.aload_n 0, 1) := by decide +kernel
theorem d_L_law_972 : decode code 972 = .ok (.iload 4, 2) := by decide +kernel
theorem d_L_law_974 : decode code 974 = .ok (.iconst 3, 1) := by decide +kernel
theorem d_L_law_975 : decode code 975 = .ok (.iadd, 1) := by decide +kernel
theorem d_L_law_976 : decode code 976 = .ok (.iaload, 1) := by decide +kernel
theorem d_L_law_977 : decode code 977 = .ok (.aload_n 0, 1) := by decide +kernel
theorem d_L_law_978 : decode code 978 = .ok (.iload 4, 2) := by decide +kernel
theorem d_L_law_980 : decode code 980 = .ok (.iconst 4, 1) := by decide +kernel
theorem d_L_law_981 : decode code 981 = .ok (.iadd, 1) := by decide +kernel
theorem d_L_law_982 : decode code 982 = .ok (.iaload, 1) := by decide +kernel
theorem d_L_law_983 : decode code 983 = .ok (.invokevirtual 138, 3) := by decide +kernel
theorem d_L_law_986 : decode code 986 = .ok (.istore 6, 2) := by decide +kernel
theorem d_L_law_988 : decode code 988 = .ok (.aload_n 2, 1) := by decide +kernel
theorem d_L_law_989 : decode code 989 = .ok (.invokevirtual 79, 3) := by decide +kernel
theorem d_L_law_992 : decode code 992 = .ok (.iload 5, 2) := by decide +kernel
theorem d_L_law_994 : decode code 994 = .ok (.if_icmp .eq (5), 3) := by decide +kernel
theorem d_L_law_997 : decode code 997 = .ok (.iconst 0, 1) := by decide +kernel
theorem d_L_law_998 : decode code 998 = .ok (.ireturn, 1) := by decide +kernel
theorem d_L_law_999 : decode code 999 = .ok (.iload 5, 2) := by decide +kernel
theorem d_L_law_1001 : decode code 1001 = .ok (.ifCond .ne (15), 3) := by decide +kernel
theorem d_L_law_1004 : decode code 1004 = .ok (.aload_n 3, 1) := by decide +kernel
theorem d_L_law_1005 : decode code 1005 = .ok (.iconst 0, 1) := by decide +kernel
theorem d_L_law_1006 : decode code 1006 = .ok (.laload, 1) := by decide +kernel
theorem d_L_law_1007 : decode code 1007 = .ok (.iload 6, 2) := by decide +kernel
theorem d_L_law_1009 : decode code 1009 = .ok (.i2l, 1) := by decide +kernel
theorem d_L_law_1010 : decode code 1010 = .ok (.lcmp, 1) := by decide +kernel
theorem d_L_law_1011 : decode code 1011 = .ok (.ifCond .eq (5), 3) := by decide +kernel
theorem d_L_law_1014 : decode code 1014 = .ok (.iconst 0, 1) := by decide +kernel
theorem d_L_law_1015 : decode code 1015 = .ok (.ireturn, 1) := by decide +kernel
theorem d_L_law_1016 : decode code 1016 = .ok (.goto (137), 3) := by decide +kernel
theorem d_L_law_1019 : decode code 1019 = .ok (.aload_n 1, 1) := by decide +kernel
theorem d_L_law_1020 : decode code 1020 = .ok (.aload_n 0, 1) := by decide +kernel
theorem d_L_law_1021 : decode code 1021 = .ok (.iload 4, 2) := by decide +kernel
theorem d_L_law_1023 : decode code 1023 = .ok (.iconst 1, 1) := by decide +kernel
theorem d_L_law_1024 : decode code 1024 = .ok (.iadd, 1) := by decide +kernel
theorem d_L_law_1025 : decode code 1025 = .ok (.iaload, 1) := by decide +kernel
theorem d_L_law_1026 : decode code 1026 = .ok (.aload_n 0, 1) := by decide +kernel
theorem d_L_law_1027 : decode code 1027 = .ok (.iload 4, 2) := by decide +kernel
theorem d_L_law_1029 : decode code 1029 = .ok (.iconst 2, 1) := by decide +kernel
theorem d_L_law_1030 : decode code 1030 = .ok (.iadd, 1) := by decide +kernel
theorem d_L_law_1031 : decode code 1031 = .ok (.iaload, 1) := by decide +kernel
theorem d_L_law_1032 : decode code 1032 = .ok (.aload_n 3, 1) := by decide +kernel
theorem d_L_law_1033 : decode code 1033 = .ok (.invokestatic 139, 3) := by decide +kernel
theorem d_L_law_1036 : decode code 1036 = .ok (.istore 5, 2) := by decide +kernel
theorem d_L_law_1038 : decode code 1038 = .ok (.aload_n 2, 1) := by decide +kernel
theorem d_L_law_1039 : decode code 1039 = .ok (.aload_n 0, 1) := by decide +kernel
theorem d_L_law_1040 : decode code 1040 = .ok (.iload 4, 2) := by decide +kernel
theorem d_L_law_1042 : decode code 1042 = .ok (.iconst 1, 1) := by decide +kernel
theorem d_L_law_1043 : decode code 1043 = .ok (.iadd, 1) := by decide +kernel
theorem d_L_law_1044 : decode code 1044 = .ok (.iaload, 1) := by decide +kernel
theorem d_L_law_1045 : decode code 1045 = .ok (.aload_n 0, 1) := by decide +kernel
theorem d_L_law_1046 : decode code 1046 = .ok (.iload 4, 2) := by decide +kernel
theorem d_L_law_1048 : decode code 1048 = .ok (.iconst 2, 1) := by decide +kernel
theorem d_L_law_1049 : decode code 1049 = .ok (.iadd, 1) := by decide +kernel
theorem d_L_law_1050 : decode code 1050 = .ok (.iaload, 1) := by decide +kernel
theorem d_L_law_1051 : decode code 1051 = .ok (.invokevirtual 141, 3) := by decide +kernel
theorem d_L_law_1054 : decode code 1054 = .ok (.lstore 6, 2) := by decide +kernel
theorem d_L_law_1056 : decode code 1056 = .ok (.aload_n 2, 1) := by decide +kernel
theorem d_L_law_1057 : decode code 1057 = .ok (.invokevirtual 79, 3) := by decide +kernel
theorem d_L_law_1060 : decode code 1060 = .ok (.iload 5, 2) := by decide +kernel
theorem d_L_law_1062 : decode code 1062 = .ok (.if_icmp .eq (5), 3) := by decide +kernel
theorem d_L_law_1065 : decode code 1065 = .ok (.iconst 0, 1) := by decide +kernel
theorem d_L_law_1066 : decode code 1066 = .ok (.ireturn, 1) := by decide +kernel
theorem d_L_law_1067 : decode code 1067 = .ok (.iload 5, 2) := by decide +kernel
theorem d_L_law_1069 : decode code 1069 = .ok (.ifCond .ne (14), 3) := by decide +kernel
theorem d_L_law_1072 : decode code 1072 = .ok (.aload_n 3, 1) := by decide +kernel
theorem d_L_law_1073 : decode code 1073 = .ok (.iconst 0, 1) := by decide +kernel
theorem d_L_law_1074 : decode code 1074 = .ok (.laload, 1) := by decide +kernel
theorem d_L_law_1075 : decode code 1075 = .ok (.lload 6, 2) := by decide +kernel
theorem d_L_law_1077 : decode code 1077 = .ok (.lcmp, 1) := by decide +kernel
theorem d_L_law_1078 : decode code 1078 = .ok (.ifCond .eq (5), 3) := by decide +kernel
theorem d_L_law_1081 : decode code 1081 = .ok (.iconst 0, 1) := by decide +kernel
theorem d_L_law_1082 : decode code 1082 = .ok (.ireturn, 1) := by decide +kernel
theorem d_L_law_1083 : decode code 1083 = .ok (.goto (70), 3) := by decide +kernel
theorem d_L_law_1086 : decode code 1086 = .ok (.aload_n 1, 1) := by decide +kernel
theorem d_L_law_1087 : decode code 1087 = .ok (.aload_n 0, 1) := by decide +kernel
theorem d_L_law_1088 : decode code 1088 = .ok (.iload 4, 2) := by decide +kernel
theorem d_L_law_1090 : decode code 1090 = .ok (.iconst 1, 1) := by decide +kernel
theorem d_L_law_1091 : decode code 1091 = .ok (.iadd, 1) := by decide +kernel
theorem d_L_law_1092 : decode code 1092 = .ok (.iaload, 1) := by decide +kernel
theorem d_L_law_1093 : decode code 1093 = .ok (.aload_n 0, 1) := by decide +kernel
theorem d_L_law_1094 : decode code 1094 = .ok (.iload 4, 2) := by decide +kernel
theorem d_L_law_1096 : decode code 1096 = .ok (.iconst 2, 1) := by decide +kernel
theorem d_L_law_1097 : decode code 1097 = .ok (.iadd, 1) := by decide +kernel
theorem d_L_law_1098 : decode code 1098 = .ok (.iaload, 1) := by decide +kernel
theorem d_L_law_1099 : decode code 1099 = .ok (.aload_n 3, 1) := by decide +kernel
theorem d_L_law_1100 : decode code 1100 = .ok (.invokestatic 142, 3) := by decide +kernel
theorem d_L_law_1103 : decode code 1103 = .ok (.istore 5, 2) := by decide +kernel
theorem d_L_law_1105 : decode code 1105 = .ok (.aload_n 2, 1) := by decide +kernel
theorem d_L_law_1106 : decode code 1106 = .ok (.aload_n 0, 1) := by decide +kernel
theorem d_L_law_1107 : decode code 1107 = .ok (.iload 4, 2) := by decide +kernel
theorem d_L_law_1109 : decode code 1109 = .ok (.iconst 1, 1) := by decide +kernel
theorem d_L_law_1110 : decode code 1110 = .ok (.iadd, 1) := by decide +kernel
theorem d_L_law_1111 : decode code 1111 = .ok (.iaload, 1) := by decide +kernel
theorem d_L_law_1112 : decode code 1112 = .ok (.aload_n 0, 1) := by decide +kernel
theorem d_L_law_1113 : decode code 1113 = .ok (.iload 4, 2) := by decide +kernel
theorem d_L_law_1115 : decode code 1115 = .ok (.iconst 2, 1) := by decide +kernel
theorem d_L_law_1116 : decode code 1116 = .ok (.iadd, 1) := by decide +kernel
theorem d_L_law_1117 : decode code 1117 = .ok (.iaload, 1) := by decide +kernel
theorem d_L_law_1118 : decode code 1118 = .ok (.invokevirtual 144, 3) := by decide +kernel
theorem d_L_law_1121 : decode code 1121 = .ok (.lstore 6, 2) := by decide +kernel
theorem d_L_law_1123 : decode code 1123 = .ok (.aload_n 2, 1) := by decide +kernel
theorem d_L_law_1124 : decode code 1124 = .ok (.invokevirtual 79, 3) := by decide +kernel
theorem d_L_law_1127 : decode code 1127 = .ok (.iload 5, 2) := by decide +kernel
theorem d_L_law_1129 : decode code 1129 = .ok (.if_icmp .eq (5), 3) := by decide +kernel
theorem d_L_law_1132 : decode code 1132 = .ok (.iconst 0, 1) := by decide +kernel
theorem d_L_law_1133 : decode code 1133 = .ok (.ireturn, 1) := by decide +kernel
theorem d_L_law_1134 : decode code 1134 = .ok (.iload 5, 2) := by decide +kernel
theorem d_L_law_1136 : decode code 1136 = .ok (.ifCond .ne (14), 3) := by decide +kernel
theorem d_L_law_1139 : decode code 1139 = .ok (.aload_n 3, 1) := by decide +kernel
theorem d_L_law_1140 : decode code 1140 = .ok (.iconst 0, 1) := by decide +kernel
theorem d_L_law_1141 : decode code 1141 = .ok (.laload, 1) := by decide +kernel
theorem d_L_law_1142 : decode code 1142 = .ok (.lload 6, 2) := by decide +kernel
theorem d_L_law_1144 : decode code 1144 = .ok (.lcmp, 1) := by decide +kernel
theorem d_L_law_1145 : decode code 1145 = .ok (.ifCond .eq (5), 3) := by decide +kernel
theorem d_L_law_1148 : decode code 1148 = .ok (.iconst 0, 1) := by decide +kernel
theorem d_L_law_1149 : decode code 1149 = .ok (.ireturn, 1) := by decide +kernel
theorem d_L_law_1150 : decode code 1150 = .ok (.goto (3), 3) := by decide +kernel
theorem d_L_law_1153 : decode code 1153 = .ok (.iinc 4 (6), 3) := by decide +kernel
theorem d_L_law_1156 : decode code 1156 = .ok (.goto (-1133), 3) := by decide +kernel
