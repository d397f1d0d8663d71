theorem d_L_law_1065 : decode code 1065 = .ok (.iload 5, 2) := by decide +kernel
theorem d_L_law_1067 : decode code 1067 = .ok (.if_icmp .eq 5, 3) := by decide +kernel
theorem d_L_law_1070 : decode code 1070 = .ok (.iconst 0, 1) := by decide +kernel
theorem d_L_law_1071 : decode code 1071 = .ok (.ireturn, 1) := by decide +kernel
theorem d_L_law_1072 : decode code 1072 = .ok (.iload 5, 2) := by decide +kernel
theorem d_L_law_1074 : decode code 1074 = .ok (.ifCond .ne 15, 3) := by decide +kernel
theorem d_L_law_1077 : decode code 1077 = .ok (.aload_n 3, 1) := by decide +kernel
theorem d_L_law_1078 : decode code 1078 = .ok (.iconst 0, 1) := by decide +kernel
theorem d_L_law_1079 : decode code 1079 = .ok (.laload, 1) := by decide +kernel
theorem d_L_law_1080 : decode code 1080 = .ok (.iload 6, 2) := by decide +kernel
theorem d_L_law_1082 : decode code 1082 = .ok (.i2l, 1) := by decide +kernel
theorem d_L_law_1083 : decode code 1083 = .ok (.lcmp, 1) := by decide +kernel
theorem d_L_law_1084 : decode code 1084 = .ok (.ifCond .eq 5, 3) := by decide +kernel
theorem d_L_law_1087 : decode code 1087 = .ok (.iconst 0, 1) := by decide +kernel
theorem d_L_law_1088 : decode code 1088 = .ok (.ireturn, 1) := by decide +kernel
theorem d_L_law_1089 : decode code 1089 = .ok (.goto 231, 3) := by decide +kernel
theorem d_L_law_1092 : decode code 1092 = .ok (.aload_n 1, 1) := by decide +kernel
theorem d_L_law_1093 : decode code 1093 = .ok (.aload_n 0, 1) := by decide +kernel
theorem d_L_law_1094 : decode code 1094 = .ok (.iload 4, 2) := by decide +kernel
theorem d_L_law_1096 : decode code 1096 = .ok (.iconst 1, 1) := by decide +kernel
theorem d_L_law_1097 : decode code 1097 = .ok (.iadd, 1) := by decide +kernel
theorem d_L_law_1098 : decode code 1098 = .ok (.iaload, 1) := by decide +kernel
theorem d_L_law_1099 : decode code 1099 = .ok (.aload_n 0, 1) := by decide +kernel
theorem d_L_law_1100 : decode code 1100 = .ok (.iload 4, 2) := by decide +kernel
theorem d_L_law_1102 : decode code 1102 = .ok (.iconst 2, 1) := by decide +kernel
theorem d_L_law_1103 : decode code 1103 = .ok (.iadd, 1) := by decide +kernel
theorem d_L_law_1104 : decode code 1104 = .ok (.iaload, 1) := by decide +kernel
theorem d_L_law_1105 : decode code 1105 = .ok (.aload_n 3, 1) := by decide +kernel
theorem d_L_law_1106 : decode code 1106 = .ok (.invokestatic 109, 3) := by decide +kernel
theorem d_L_law_1109 : decode code 1109 = .ok (.istore 5, 2) := by decide +kernel
theorem d_L_law_1111 : decode code 1111 = .ok (.aload_n 2, 1) := by decide +kernel
theorem d_L_law_1112 : decode code 1112 = .ok (.aload_n 0, 1) := by decide +kernel
theorem d_L_law_1113 : decode code 1113 = .ok (.iload 4, 2) := by decide +kernel
theorem d_L_law_1115 : decode code 1115 = .ok (.iconst 1, 1) := by decide +kernel
theorem d_L_law_1116 : decode code 1116 = .ok (.iadd, 1) := by decide +kernel
theorem d_L_law_1117 : decode code 1117 = .ok (.iaload, 1) := by decide +kernel
theorem d_L_law_1118 : decode code 1118 = .ok (.aload_n 0, 1) := by decide +kernel
theorem d_L_law_1119 : decode code 1119 = .ok (.iload 4, 2) := by decide +kernel
theorem d_L_law_1121 : decode code 1121 = .ok (.iconst 2, 1) := by decide +kernel
theorem d_L_law_1122 : decode code 1122 = .ok (.iadd, 1) := by decide +kernel
theorem d_L_law_1123 : decode code 1123 = .ok (.iaload, 1) := by decide +kernel
theorem d_L_law_1124 : decode code 1124 = .ok (.invokevirtual 111, 3) := by decide +kernel
theorem d_L_law_1127 : decode code 1127 = .ok (.istore 6, 2) := by decide +kernel
theorem d_L_law_1129 : decode code 1129 = .ok (.aload_n 2, 1) := by decide +kernel
theorem d_L_law_1130 : decode code 1130 = .ok (.invokevirtual 80, 3) := by decide +kernel
theorem d_L_law_1133 : decode code 1133 = .ok (.iload 5, 2) := by decide +kernel
theorem d_L_law_1135 : decode code 1135 = .ok (.if_icmp .eq 5, 3) := by decide +kernel
theorem d_L_law_1138 : decode code 1138 = .ok (.iconst 0, 1) := by decide +kernel
theorem d_L_law_1139 : decode code 1139 = .ok (.ireturn, 1) := by decide +kernel
theorem d_L_law_1140 : decode code 1140 = .ok (.iload 5, 2) := by decide +kernel
theorem d_L_law_1142 : decode code 1142 = .ok (.ifCond .ne 15, 3) := by decide +kernel
theorem d_L_law_1145 : decode code 1145 = .ok (.aload_n 3, 1) := by decide +kernel
theorem d_L_law_1146 : decode code 1146 = .ok (.iconst 0, 1) := by decide +kernel
theorem d_L_law_1147 : decode code 1147 = .ok (.laload, 1) := by decide +kernel
theorem d_L_law_1148 : decode code 1148 = .ok (.iload 6, 2) := by decide +kernel
theorem d_L_law_1150 : decode code 1150 = .ok (.i2l, 1) := by decide +kernel
theorem d_L_law_1151 : decode code 1151 = .ok (.lcmp, 1) := by decide +kernel
theorem d_L_law_1152 : decode code 1152 = .ok (.ifCond .eq 5, 3) := by decide +kernel
theorem d_L_law_1155 : decode code 1155 = .ok (.iconst 0, 1) := by decide +kernel
theorem d_L_law_1156 : decode code 1156 = .ok (.ireturn, 1) := by decide +kernel
theorem d_L_law_1157 : decode code 1157 = .ok (.goto 163, 3) := by decide +kernel
theorem d_L_law_1160 : decode code 1160 = .ok (.aload_n 1, 1) := by decide +kernel
theorem d_L_law_1161 : decode code 1161 = .ok (.aload_n 0, 1) := by decide +kernel
theorem d_L_law_1162 : decode code 1162 = .ok (.iload 4, 2) := by decide +kernel
theorem d_L_law_1164 : decode code 1164 = .ok (.iconst 1, 1) := by decide +kernel
theorem d_L_law_1165 : decode code 1165 = .ok (.iadd, 1) := by decide +kernel
theorem d_L_law_1166 : decode code 1166 = .ok (.iaload, 1) := by decide +kernel
theorem d_L_law_1167 : decode code 1167 = .ok (.aload_n 0, 1) := by decide +kernel
theorem d_L_law_1168 : decode code 1168 = .ok (.iload 4, 2) := by decide +kernel
theorem d_L_law_1170 : decode code 1170 = .ok (.iconst 2, 1) := by decide +kernel
theorem d_L_law_1171 : decode code 1171 = .ok (.iadd, 1) := by decide +kernel
theorem d_L_law_1172 : decode code 1172 = .ok (.iaload, 1) := by decide +kernel
theorem d_L_law_1173 : decode code 1173 = .ok (.aload_n 3, 1) := by decide +kernel
theorem d_L_law_1174 : decode code 1174 = .ok (.invokestatic 112, 3) := by decide +kernel
theorem d_L_law_1177 : decode code 1177 = .ok (.istore 5, 2) := by decide +kernel
theorem d_L_law_1179 : decode code 1179 = .ok (.aload_n 2, 1) := by decide +kernel
theorem d_L_law_1180 : decode code 1180 = .ok (.aload_n 0, 1) := by decide +kernel
theorem d_L_law_1181 : decode code 1181 = .ok (.iload 4, 2) := by decide +kernel
theorem d_L_law_1183 : decode code 1183 = .ok (.iconst 1, 1) := by decide +kernel
theorem d_L_law_1184 : decode code 1184 = .ok (.iadd, 1) := by decide +kernel
theorem d_L_law_1185 : decode code 1185 = .ok (.iaload, 1) := by decide +kernel
theorem d_L_law_1186 : decode code 1186 = .ok (.aload_n 0, 1) := by decide +kernel
theorem d_L_law_1187 : decode code 1187 = .ok (.iload 4, 2) := by decide +kernel
theorem d_L_law_1189 : decode code 1189 = .ok (.iconst 2, 1) := by decide +kernel
theorem d_L_law_1190 : decode code 1190 = .ok (.iadd, 1) := by decide +kernel
theorem d_L_law_1191 : decode code 1191 = .ok (.iaload, 1) := by decide +kernel
theorem d_L_law_1192 : decode code 1192 = .ok (.invokevirtual 114, 3) := by decide +kernel
theorem d_L_law_1195 : decode code 1195 = .ok (.istore 6, 2) := by decide +kernel
theorem d_L_law_1197 : decode code 1197 = .ok (.aload_n 2, 1) := by decide +kernel
theorem d_L_law_1198 : decode code 1198 = .ok (.invokevirtual 80, 3) := by decide +kernel
theorem d_L_law_1201 : decode code 1201 = .ok (.iload 5, 2) := by decide +kernel
theorem d_L_law_1203 : decode code 1203 = .ok (.if_icmp .eq 5, 3) := by decide +kernel
theorem d_L_law_1206 : decode code 1206 = .ok (.iconst 0, 1) := by decide +kernel
theorem d_L_law_1207 : decode code 1207 = .ok (.ireturn, 1) := by decide +kernel
theorem d_L_law_1208 : decode code 1208 = .ok (.iload 5, 2) := by decide +kernel
theorem d_L_law_1210 : decode code 1210 = .ok (.ifCond .ne 15, 3) := by decide +kernel
theorem d_L_law_1213 : decode code 1213 = .ok (.aload_n 3, 1) := by decide +kernel
theorem d_L_law_1214 : decode code 1214 = .ok (.iconst 0, 1) := by decide +kernel
theorem d_L_law_1215 : decode code 1215 = .ok (.laload, 1) := by decide +kernel
theorem d_L_law_1216 : decode code 1216 = .ok (.iload 6, 2) := by decide +kernel
