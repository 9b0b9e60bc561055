/-! the law, its instructions -/
theorem dL_988 : decode code 988 = .ok (.aload_n 0, 1) := by decide +kernel
theorem dL_989 : decode code 989 = .ok (.iload_n 3, 1) := by decide +kernel
theorem dL_990 : decode code 990 = .ok (.iconst 1, 1) := by decide +kernel
theorem dL_991 : decode code 991 = .ok (.iadd, 1) := by decide +kernel
theorem dL_992 : decode code 992 = .ok (.iaload, 1) := by decide +kernel
theorem dL_993 : decode code 993 = .ok (.invokevirtual 116, 3) := by decide +kernel
theorem dL_996 : decode code 996 = .ok (.if_icmp .eq 756, 3) := by decide +kernel
theorem dL_1001 : decode code 1001 = .ok (.aload_n 1, 1) := by decide +kernel
theorem dL_1002 : decode code 1002 = .ok (.invokevirtual 117, 3) := by decide +kernel
theorem dL_1005 : decode code 1005 = .ok (.aload_n 2, 1) := by decide +kernel
theorem dL_1006 : decode code 1006 = .ok (.invokevirtual 120, 3) := by decide +kernel
theorem dL_1009 : decode code 1009 = .ok (.if_icmp .eq 743, 3) := by decide +kernel
theorem dL_1014 : decode code 1014 = .ok (.aload_n 1, 1) := by decide +kernel
theorem dL_1015 : decode code 1015 = .ok (.invokevirtual 121, 3) := by decide +kernel
theorem dL_1018 : decode code 1018 = .ok (.aload_n 2, 1) := by decide +kernel
theorem dL_1019 : decode code 1019 = .ok (.invokevirtual 124, 3) := by decide +kernel
theorem dL_1022 : decode code 1022 = .ok (.if_icmp .eq 730, 3) := by decide +kernel
theorem dL_1027 : decode code 1027 = .ok (.aload_n 1, 1) := by decide +kernel
theorem dL_1028 : decode code 1028 = .ok (.invokevirtual 125, 3) := by decide +kernel
theorem dL_1031 : decode code 1031 = .ok (.aload_n 2, 1) := by decide +kernel
theorem dL_1032 : decode code 1032 = .ok (.invokevirtual 128, 3) := by decide +kernel
theorem dL_1035 : decode code 1035 = .ok (.if_icmp .eq 717, 3) := by decide +kernel
theorem dL_1040 : decode code 1040 = .ok (.aload_n 1, 1) := by decide +kernel
theorem dL_1041 : decode code 1041 = .ok (.aload_n 0, 1) := by decide +kernel
theorem dL_1042 : decode code 1042 = .ok (.iload_n 3, 1) := by decide +kernel
theorem dL_1043 : decode code 1043 = .ok (.iconst 1, 1) := by decide +kernel
theorem dL_1044 : decode code 1044 = .ok (.iadd, 1) := by decide +kernel
theorem dL_1045 : decode code 1045 = .ok (.iaload, 1) := by decide +kernel
theorem dL_1046 : decode code 1046 = .ok (.aload_n 0, 1) := by decide +kernel
theorem dL_1047 : decode code 1047 = .ok (.iload_n 3, 1) := by decide +kernel
theorem dL_1048 : decode code 1048 = .ok (.iconst 2, 1) := by decide +kernel
theorem dL_1049 : decode code 1049 = .ok (.iadd, 1) := by decide +kernel
theorem dL_1050 : decode code 1050 = .ok (.iaload, 1) := by decide +kernel
theorem dL_1051 : decode code 1051 = .ok (.aload_n 0, 1) := by decide +kernel
theorem dL_1052 : decode code 1052 = .ok (.iload_n 3, 1) := by decide +kernel
theorem dL_1053 : decode code 1053 = .ok (.iconst 3, 1) := by decide +kernel
theorem dL_1054 : decode code 1054 = .ok (.iadd, 1) := by decide +kernel
theorem dL_1055 : decode code 1055 = .ok (.iaload, 1) := by decide +kernel
theorem dL_1056 : decode code 1056 = .ok (.invokevirtual 129, 3) := by decide +kernel
theorem dL_1059 : decode code 1059 = .ok (.aload_n 2, 1) := by decide +kernel
theorem dL_1060 : decode code 1060 = .ok (.aload_n 0, 1) := by decide +kernel
theorem dL_1061 : decode code 1061 = .ok (.iload_n 3, 1) := by decide +kernel
theorem dL_1062 : decode code 1062 = .ok (.iconst 1, 1) := by decide +kernel
theorem dL_1063 : decode code 1063 = .ok (.iadd, 1) := by decide +kernel
theorem dL_1064 : decode code 1064 = .ok (.iaload, 1) := by decide +kernel
theorem dL_1065 : decode code 1065 = .ok (.aload_n 0, 1) := by decide +kernel
theorem dL_1066 : decode code 1066 = .ok (.iload_n 3, 1) := by decide +kernel
theorem dL_1067 : decode code 1067 = .ok (.iconst 2, 1) := by decide +kernel
theorem dL_1068 : decode code 1068 = .ok (.iadd, 1) := by decide +kernel
theorem dL_1069 : decode code 1069 = .ok (.iaload, 1) := by decide +kernel
theorem dL_1070 : decode code 1070 = .ok (.aload_n 0, 1) := by decide +kernel
theorem dL_1071 : decode code 1071 = .ok (.iload_n 3, 1) := by decide +kernel
theorem dL_1072 : decode code 1072 = .ok (.iconst 3, 1) := by decide +kernel
theorem dL_1073 : decode code 1073 = .ok (.iadd, 1) := by decide +kernel
theorem dL_1074 : decode code 1074 = .ok (.iaload, 1) := by decide +kernel
theorem dL_1075 : decode code 1075 = .ok (.invokevirtual 132, 3) := by decide +kernel
theorem dL_1078 : decode code 1078 = .ok (.if_icmp .eq 674, 3) := by decide +kernel
theorem dL_1083 : decode code 1083 = .ok (.aload_n 1, 1) := by decide +kernel
theorem dL_1084 : decode code 1084 = .ok (.aload_n 0, 1) := by decide +kernel
theorem dL_1085 : decode code 1085 = .ok (.iload_n 3, 1) := by decide +kernel
theorem dL_1086 : decode code 1086 = .ok (.iconst 1, 1) := by decide +kernel
theorem dL_1087 : decode code 1087 = .ok (.iadd, 1) := by decide +kernel
theorem dL_1088 : decode code 1088 = .ok (.iaload, 1) := by decide +kernel
theorem dL_1089 : decode code 1089 = .ok (.aload_n 0, 1) := by decide +kernel
theorem dL_1090 : decode code 1090 = .ok (.iload_n 3, 1) := by decide +kernel
theorem dL_1091 : decode code 1091 = .ok (.iconst 2, 1) := by decide +kernel
theorem dL_1092 : decode code 1092 = .ok (.iadd, 1) := by decide +kernel
theorem dL_1093 : decode code 1093 = .ok (.iaload, 1) := by decide +kernel
theorem dL_1094 : decode code 1094 = .ok (.aload_n 0, 1) := by decide +kernel
theorem dL_1095 : decode code 1095 = .ok (.iload_n 3, 1) := by decide +kernel
theorem dL_1096 : decode code 1096 = .ok (.iconst 3, 1) := by decide +kernel
theorem dL_1097 : decode code 1097 = .ok (.iadd, 1) := by decide +kernel
theorem dL_1098 : decode code 1098 = .ok (.iaload, 1) := by decide +kernel
theorem dL_1099 : decode code 1099 = .ok (.aload_n 0, 1) := by decide +kernel
theorem dL_1100 : decode code 1100 = .ok (.iload_n 3, 1) := by decide +kernel
theorem dL_1101 : decode code 1101 = .ok (.iconst 4, 1) := by decide +kernel
theorem dL_1102 : decode code 1102 = .ok (.iadd, 1) := by decide +kernel
theorem dL_1103 : decode code 1103 = .ok (.iaload, 1) := by decide +kernel
theorem dL_1104 : decode code 1104 = .ok (.invokevirtual 133, 3) := by decide +kernel
theorem dL_1107 : decode code 1107 = .ok (.aload_n 2, 1) := by decide +kernel
theorem dL_1108 : decode code 1108 = .ok (.aload_n 0, 1) := by decide +kernel
theorem dL_1109 : decode code 1109 = .ok (.iload_n 3, 1) := by decide +kernel
theorem dL_1110 : decode code 1110 = .ok (.iconst 1, 1) := by decide +kernel
theorem dL_1111 : decode code 1111 = .ok (.iadd, 1) := by decide +kernel
theorem dL_1112 : decode code 1112 = .ok (.iaload, 1) := by decide +kernel
theorem dL_1113 : decode code 1113 = .ok (.aload_n 0, 1) := by decide +kernel
theorem dL_1114 : decode code 1114 = .ok (.iload_n 3, 1) := by decide +kernel
theorem dL_1115 : decode code 1115 = .ok (.iconst 2, 1) := by decide +kernel
theorem dL_1116 : decode code 1116 = .ok (.iadd, 1) := by decide +kernel
theorem dL_1117 : decode code 1117 = .ok (.iaload, 1) := by decide +kernel
theorem dL_1118 : decode code 1118 = .ok (.aload_n 0, 1) := by decide +kernel
theorem dL_1119 : decode code 1119 = .ok (.iload_n 3, 1) := by decide +kernel
theorem dL_1120 : decode code 1120 = .ok (.iconst 3, 1) := by decide +kernel
theorem dL_1121 : decode code 1121 = .ok (.iadd, 1) := by decide +kernel
theorem dL_1122 : decode code 1122 = .ok (.iaload, 1) := by decide +kernel
theorem dL_1123 : decode code 1123 = .ok (.aload_n 0, 1) := by decide +kernel
theorem dL_1124 : decode code 1124 = .ok (.iload_n 3, 1) := by decide +kernel
theorem dL_1125 : decode code 1125 = .ok (.iconst 4, 1) := by decide +kernel
theorem dL_1126 : decode code 1126 = .ok (.iadd, 1) := by decide +kernel
theorem dL_1127 : decode code 1127 = .ok (.iaload, 1) := by decide +kernel
theorem dL_1128 : decode code 1128 = .ok (.invokevirtual 137, 3) := by decide +kernel
theorem dL_1131 : decode code 1131 = .ok (.if_icmp .eq 621, 3) := by decide +kernel
theorem dL_1136 : decode code 1136 = .ok (.aload_n 1, 1) := by decide +kernel
theorem dL_1137 : decode code 1137 = .ok (.aload_n 0, 1) := by decide +kernel
theorem dL_1138 : decode code 1138 = .ok (.iload_n 3, 1) := by decide +kernel
theorem dL_1139 : decode code 1139 = .ok (.iconst 1, 1) := by decide +kernel
theorem dL_1140 : decode code 1140 = .ok (.iadd, 1) := by decide +kernel
theorem dL_1141 : decode code 1141 = .ok (.iaload, 1) := by decide +kernel
theorem dL_1142 : decode code 1142 = .ok (.aload_n 0, 1) := by decide +kernel
theorem dL_1143 : decode code 1143 = .ok (.iload_n 3, 1) := by decide +kernel
theorem dL_1144 : decode code 1144 = .ok (.iconst 2, 1) := by decide +kernel
theorem dL_1145 : decode code 1145 = .ok (.iadd, 1) := by decide +kernel
theorem dL_1146 : decode code 1146 = .ok (.iaload, 1) := by decide +kernel
theorem dL_1147 : decode code 1147 = .ok (.invokevirtual 138, 3) := by decide +kernel
theorem dL_1150 : decode code 1150 = .ok (.aload_n 2, 1) := by decide +kernel
theorem dL_1151 : decode code 1151 = .ok (.aload_n 0, 1) := by decide +kernel
theorem dL_1152 : decode code 1152 = .ok (.iload_n 3, 1) := by decide +kernel
theorem dL_1153 : decode code 1153 = .ok (.iconst 1, 1) := by decide +kernel
theorem dL_1154 : decode code 1154 = .ok (.iadd, 1) := by decide +kernel
theorem dL_1155 : decode code 1155 = .ok (.iaload, 1) := by decide +kernel
theorem dL_1156 : decode code 1156 = .ok (.aload_n 0, 1) := by decide +kernel
theorem dL_1157 : decode code 1157 = .ok (.iload_n 3, 1) := by decide +kernel
theorem dL_1158 : decode code 1158 = .ok (.iconst 2, 1) := by decide +kernel
theorem dL_1159 : decode code 1159 = .ok (.iadd, 1) := by decide +kernel
theorem dL_1160 : decode code 1160 = .ok (.iaload, 1) := by decide +kernel
theorem dL_1161 : decode code 1161 = .ok (.invokevirtual 141, 3) := by decide +kernel
theorem dL_1164 : decode code 1164 = .ok (.if_icmp .eq 588, 3) := by decide +kernel
theorem dL_1169 : decode code 1169 = .ok (.aload_n 1, 1) := by decide +kernel
theorem dL_1170 : decode code 1170 = .ok (.aload_n 0, 1) := by decide +kernel
theorem dL_1171 : decode code 1171 = .ok (.iload_n 3, 1) := by decide +kernel
theorem dL_1172 : decode code 1172 = .ok (.iconst 1, 1) := by decide +kernel
theorem dL_1173 : decode code 1173 = .ok (.iadd, 1) := by decide +kernel
theorem dL_1174 : decode code 1174 = .ok (.iaload, 1) := by decide +kernel
theorem dL_1175 : decode code 1175 = .ok (.invokevirtual 142, 3) := by decide +kernel
theorem dL_1178 : decode code 1178 = .ok (.aload_n 2, 1) := by decide +kernel
theorem dL_1179 : decode code 1179 = .ok (.aload_n 0, 1) := by decide +kernel
theorem dL_1180 : decode code 1180 = .ok (.iload_n 3, 1) := by decide +kernel
theorem dL_1181 : decode code 1181 = .ok (.iconst 1, 1) := by decide +kernel
theorem dL_1182 : decode code 1182 = .ok (.iadd, 1) := by decide +kernel
theorem dL_1183 : decode code 1183 = .ok (.iaload, 1) := by decide +kernel
