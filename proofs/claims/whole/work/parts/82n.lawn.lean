theorem dL_law_1030 : decode cL_law 1030 = .ok (.iconst 1, 1) := by decide +kernel
theorem dL_law_1031 : decode cL_law 1031 = .ok (.iadd, 1) := by decide +kernel
theorem dL_law_1032 : decode cL_law 1032 = .ok (.iaload, 1) := by decide +kernel
theorem dL_law_1033 : decode cL_law 1033 = .ok (.aload_n 0, 1) := by decide +kernel
theorem dL_law_1034 : decode cL_law 1034 = .ok (.iload_n 3, 1) := by decide +kernel
theorem dL_law_1035 : decode cL_law 1035 = .ok (.iconst 2, 1) := by decide +kernel
theorem dL_law_1036 : decode cL_law 1036 = .ok (.iadd, 1) := by decide +kernel
theorem dL_law_1037 : decode cL_law 1037 = .ok (.iaload, 1) := by decide +kernel
theorem dL_law_1038 : decode cL_law 1038 = .ok (.aload_n 0, 1) := by decide +kernel
theorem dL_law_1039 : decode cL_law 1039 = .ok (.iload_n 3, 1) := by decide +kernel
theorem dL_law_1040 : decode cL_law 1040 = .ok (.iconst 3, 1) := by decide +kernel
theorem dL_law_1041 : decode cL_law 1041 = .ok (.iadd, 1) := by decide +kernel
theorem dL_law_1042 : decode cL_law 1042 = .ok (.iaload, 1) := by decide +kernel
theorem dL_law_1043 : decode cL_law 1043 = .ok (.invokevirtual 133, 3) := by decide +kernel
theorem dL_law_1046 : decode cL_law 1046 = .ok (.if_icmp .eq 226, 3) := by decide +kernel
theorem dL_law_1049 : decode cL_law 1049 = .ok (.iconst 0, 1) := by decide +kernel
theorem dL_law_1050 : decode cL_law 1050 = .ok (.ireturn, 1) := by decide +kernel
theorem dL_law_1051 : decode cL_law 1051 = .ok (.aload_n 1, 1) := by decide +kernel
theorem dL_law_1052 : decode cL_law 1052 = .ok (.aload_n 0, 1) := by decide +kernel
theorem dL_law_1053 : decode cL_law 1053 = .ok (.iload_n 3, 1) := by decide +kernel
theorem dL_law_1054 : decode cL_law 1054 = .ok (.iconst 1, 1) := by decide +kernel
theorem dL_law_1055 : decode cL_law 1055 = .ok (.iadd, 1) := by decide +kernel
theorem dL_law_1056 : decode cL_law 1056 = .ok (.iaload, 1) := by decide +kernel
theorem dL_law_1057 : decode cL_law 1057 = .ok (.invokevirtual 134, 3) := by decide +kernel
theorem dL_law_1060 : decode cL_law 1060 = .ok (.aload_n 2, 1) := by decide +kernel
theorem dL_law_1061 : decode cL_law 1061 = .ok (.aload_n 0, 1) := by decide +kernel
theorem dL_law_1062 : decode cL_law 1062 = .ok (.iload_n 3, 1) := by decide +kernel
theorem dL_law_1063 : decode cL_law 1063 = .ok (.iconst 1, 1) := by decide +kernel
theorem dL_law_1064 : decode cL_law 1064 = .ok (.iadd, 1) := by decide +kernel
theorem dL_law_1065 : decode cL_law 1065 = .ok (.iaload, 1) := by decide +kernel
theorem dL_law_1066 : decode cL_law 1066 = .ok (.invokevirtual 137, 3) := by decide +kernel
theorem dL_law_1069 : decode cL_law 1069 = .ok (.if_icmp .eq 203, 3) := by decide +kernel
theorem dL_law_1072 : decode cL_law 1072 = .ok (.iconst 0, 1) := by decide +kernel
theorem dL_law_1073 : decode cL_law 1073 = .ok (.ireturn, 1) := by decide +kernel
theorem dL_law_1074 : decode cL_law 1074 = .ok (.aload_n 1, 1) := by decide +kernel
theorem dL_law_1075 : decode cL_law 1075 = .ok (.aload_n 0, 1) := by decide +kernel
theorem dL_law_1076 : decode cL_law 1076 = .ok (.iload_n 3, 1) := by decide +kernel
theorem dL_law_1077 : decode cL_law 1077 = .ok (.iconst 1, 1) := by decide +kernel
theorem dL_law_1078 : decode cL_law 1078 = .ok (.iadd, 1) := by decide +kernel
theorem dL_law_1079 : decode cL_law 1079 = .ok (.iaload, 1) := by decide +kernel
theorem dL_law_1080 : decode cL_law 1080 = .ok (.invokevirtual 138, 3) := by decide +kernel
theorem dL_law_1083 : decode cL_law 1083 = .ok (.aload_n 2, 1) := by decide +kernel
theorem dL_law_1084 : decode cL_law 1084 = .ok (.aload_n 0, 1) := by decide +kernel
theorem dL_law_1085 : decode cL_law 1085 = .ok (.iload_n 3, 1) := by decide +kernel
theorem dL_law_1086 : decode cL_law 1086 = .ok (.iconst 1, 1) := by decide +kernel
theorem dL_law_1087 : decode cL_law 1087 = .ok (.iadd, 1) := by decide +kernel
theorem dL_law_1088 : decode cL_law 1088 = .ok (.iaload, 1) := by decide +kernel
theorem dL_law_1089 : decode cL_law 1089 = .ok (.invokevirtual 141, 3) := by decide +kernel
theorem dL_law_1092 : decode cL_law 1092 = .ok (.if_icmp .eq 180, 3) := by decide +kernel
theorem dL_law_1095 : decode cL_law 1095 = .ok (.iconst 0, 1) := by decide +kernel
theorem dL_law_1096 : decode cL_law 1096 = .ok (.ireturn, 1) := by decide +kernel
theorem dL_law_1097 : decode cL_law 1097 = .ok (.aload_n 1, 1) := by decide +kernel
theorem dL_law_1098 : decode cL_law 1098 = .ok (.aload_n 0, 1) := by decide +kernel
theorem dL_law_1099 : decode cL_law 1099 = .ok (.iload_n 3, 1) := by decide +kernel
theorem dL_law_1100 : decode cL_law 1100 = .ok (.iconst 1, 1) := by decide +kernel
theorem dL_law_1101 : decode cL_law 1101 = .ok (.iadd, 1) := by decide +kernel
theorem dL_law_1102 : decode cL_law 1102 = .ok (.iaload, 1) := by decide +kernel
theorem dL_law_1103 : decode cL_law 1103 = .ok (.aload_n 0, 1) := by decide +kernel
theorem dL_law_1104 : decode cL_law 1104 = .ok (.iload_n 3, 1) := by decide +kernel
theorem dL_law_1105 : decode cL_law 1105 = .ok (.iconst 2, 1) := by decide +kernel
theorem dL_law_1106 : decode cL_law 1106 = .ok (.iadd, 1) := by decide +kernel
theorem dL_law_1107 : decode cL_law 1107 = .ok (.iaload, 1) := by decide +kernel
theorem dL_law_1108 : decode cL_law 1108 = .ok (.aload_n 0, 1) := by decide +kernel
theorem dL_law_1109 : decode cL_law 1109 = .ok (.iload_n 3, 1) := by decide +kernel
theorem dL_law_1110 : decode cL_law 1110 = .ok (.iconst 3, 1) := by decide +kernel
theorem dL_law_1111 : decode cL_law 1111 = .ok (.iadd, 1) := by decide +kernel
theorem dL_law_1112 : decode cL_law 1112 = .ok (.iaload, 1) := by decide +kernel
theorem dL_law_1113 : decode cL_law 1113 = .ok (.invokevirtual 142, 3) := by decide +kernel
theorem dL_law_1116 : decode cL_law 1116 = .ok (.aload_n 2, 1) := by decide +kernel
theorem dL_law_1117 : decode cL_law 1117 = .ok (.aload_n 0, 1) := by decide +kernel
theorem dL_law_1118 : decode cL_law 1118 = .ok (.iload_n 3, 1) := by decide +kernel
theorem dL_law_1119 : decode cL_law 1119 = .ok (.iconst 1, 1) := by decide +kernel
theorem dL_law_1120 : decode cL_law 1120 = .ok (.iadd, 1) := by decide +kernel
theorem dL_law_1121 : decode cL_law 1121 = .ok (.iaload, 1) := by decide +kernel
theorem dL_law_1122 : decode cL_law 1122 = .ok (.aload_n 0, 1) := by decide +kernel
theorem dL_law_1123 : decode cL_law 1123 = .ok (.iload_n 3, 1) := by decide +kernel
theorem dL_law_1124 : decode cL_law 1124 = .ok (.iconst 2, 1) := by decide +kernel
theorem dL_law_1125 : decode cL_law 1125 = .ok (.iadd, 1) := by decide +kernel
theorem dL_law_1126 : decode cL_law 1126 = .ok (.iaload, 1) := by decide +kernel
theorem dL_law_1127 : decode cL_law 1127 = .ok (.aload_n 0, 1) := by decide +kernel
theorem dL_law_1128 : decode cL_law 1128 = .ok (.iload_n 3, 1) := by decide +kernel
theorem dL_law_1129 : decode cL_law 1129 = .ok (.iconst 3, 1) := by decide +kernel
theorem dL_law_1130 : decode cL_law 1130 = .ok (.iadd, 1) := by decide +kernel
theorem dL_law_1131 : decode cL_law 1131 = .ok (.iaload, 1) := by decide +kernel
theorem dL_law_1132 : decode cL_law 1132 = .ok (.invokevirtual 145, 3) := by decide +kernel
theorem dL_law_1135 : decode cL_law 1135 = .ok (.if_icmp .eq 137, 3) := by decide +kernel
theorem dL_law_1138 : decode cL_law 1138 = .ok (.iconst 0, 1) := by decide +kernel
theorem dL_law_1139 : decode cL_law 1139 = .ok (.ireturn, 1) := by decide +kernel
theorem dL_law_1140 : decode cL_law 1140 = .ok (.aload_n 1, 1) := by decide +kernel
theorem dL_law_1141 : decode cL_law 1141 = .ok (.aload_n 0, 1) := by decide +kernel
theorem dL_law_1142 : decode cL_law 1142 = .ok (.iload_n 3, 1) := by decide +kernel
theorem dL_law_1143 : decode cL_law 1143 = .ok (.iconst 1, 1) := by decide +kernel
theorem dL_law_1144 : decode cL_law 1144 = .ok (.iadd, 1) := by decide +kernel
theorem dL_law_1145 : decode cL_law 1145 = .ok (.iaload, 1) := by decide +kernel
theorem dL_law_1146 : decode cL_law 1146 = .ok (.aload_n 0, 1) := by decide +kernel
theorem dL_law_1147 : decode cL_law 1147 = .ok (.iload_n 3, 1) := by decide +kernel
theorem dL_law_1148 : decode cL_law 1148 = .ok (.iconst 2, 1) := by decide +kernel
theorem dL_law_1149 : decode cL_law 1149 = .ok (.iadd, 1) := by decide +kernel
theorem dL_law_1150 : decode cL_law 1150 = .ok (.iaload, 1) := by decide +kernel
theorem dL_law_1151 : decode cL_law 1151 = .ok (.aload_n 0, 1) := by decide +kernel
theorem dL_law_1152 : decode cL_law 1152 = .ok (.iload_n 3, 1) := by decide +kernel
theorem dL_law_1153 : decode cL_law 1153 = .ok (.iconst 3, 1) := by decide +kernel
theorem dL_law_1154 : decode cL_law 1154 = .ok (.iadd, 1) := by decide +kernel
theorem dL_law_1155 : decode cL_law 1155 = .ok (.iaload, 1) := by decide +kernel
theorem dL_law_1156 : decode cL_law 1156 = .ok (.invokevirtual 146, 3) := by decide +kernel
theorem dL_law_1159 : decode cL_law 1159 = .ok (.aload_n 2, 1) := by decide +kernel
theorem dL_law_1160 : decode cL_law 1160 = .ok (.aload_n 0, 1) := by decide +kernel
theorem dL_law_1161 : decode cL_law 1161 = .ok (.iload_n 3, 1) := by decide +kernel
theorem dL_law_1162 : decode cL_law 1162 = .ok (.iconst 1, 1) := by decide +kernel
theorem dL_law_1163 : decode cL_law 1163 = .ok (.iadd, 1) := by decide +kernel
theorem dL_law_1164 : decode cL_law 1164 = .ok (.iaload, 1) := by decide +kernel
theorem dL_law_1165 : decode cL_law 1165 = .ok (.aload_n 0, 1) := by decide +kernel
theorem dL_law_1166 : decode cL_law 1166 = .ok (.iload_n 3, 1) := by decide +kernel
theorem dL_law_1167 : decode cL_law 1167 = .ok (.iconst 2, 1) := by decide +kernel
theorem dL_law_1168 : decode cL_law 1168 = .ok (.iadd, 1) := by decide +kernel
theorem dL_law_1169 : decode cL_law 1169 = .ok (.iaload, 1) := by decide +kernel
theorem dL_law_1170 : decode cL_law 1170 = .ok (.aload_n 0, 1) := by decide +kernel
theorem dL_law_1171 : decode cL_law 1171 = .ok (.iload_n 3, 1) := by decide +kernel
theorem dL_law_1172 : decode cL_law 1172 = .ok (.iconst 3, 1) := by decide +kernel
theorem dL_law_1173 : decode cL_law 1173 = .ok (.iadd, 1) := by decide +kernel
theorem dL_law_1174 : decode cL_law 1174 = .ok (.iaload, 1) := by decide +kernel
theorem dL_law_1175 : decode cL_law 1175 = .ok (.invokevirtual 149, 3) := by decide +kernel
theorem dL_law_1178 : decode cL_law 1178 = .ok (.if_icmp .eq 94, 3) := by decide +kernel
theorem dL_law_1181 : decode cL_law 1181 = .ok (.iconst 0, 1) := by decide +kernel
theorem dL_law_1182 : decode cL_law 1182 = .ok (.ireturn, 1) := by decide +kernel
theorem dL_law_1183 : decode cL_law 1183 = .ok (.aload_n 1, 1) := by decide +kernel
theorem dL_law_1184 : decode cL_law 1184 = .ok (.aload_n 0, 1) := by decide +kernel
theorem dL_law_1185 : decode cL_law 1185 = .ok (.iload_n 3, 1) := by decide +kernel
theorem dL_law_1186 : decode cL_law 1186 = .ok (.iconst 1, 1) := by decide +kernel
theorem dL_law_1187 : decode cL_law 1187 = .ok (.iadd, 1) := by decide +kernel
theorem dL_law_1188 : decode cL_law 1188 = .ok (.iaload, 1) := by decide +kernel
theorem dL_law_1189 : decode cL_law 1189 = .ok (.aload_n 0, 1) := by decide +kernel
theorem dL_law_1190 : decode cL_law 1190 = .ok (.iload_n 3, 1) := by decide +kernel
theorem dL_law_1191 : decode cL_law 1191 = .ok (.iconst 2, 1) := by decide +kernel
theorem dL_law_1192 : decode cL_law 1192 = .ok (.iadd, 1) := by decide +kernel
theorem dL_law_1193 : decode cL_law 1193 = .ok (.iaload, 1) := by decide +kernel
theorem dL_law_1194 : decode cL_law 1194 = .ok (.aload_n 0, 1) := by decide +kernel
theorem dL_law_1195 : decode cL_law 1195 = .ok (.iload_n 3, 1) := by decide +kernel
theorem dL_law_1196 : decode cL_law 1196 = .ok (.iconst 3, 1) := by decide +kernel
theorem dL_law_1197 : decode cL_law 1197 = .ok (.iadd, 1) := by decide +kernel
theorem dL_law_1198 : decode cL_law 1198 = .ok (.iaload, 1) := by decide +kernel
theorem dL_law_1199 : decode cL_law 1199 = .ok (.aload_n 0, 1) := by decide +kernel
theorem dL_law_1200 : decode cL_law 1200 = .ok (.iload_n 3, 1) := by decide +kernel
theorem dL_law_1201 : decode cL_law 1201 = .ok (.iconst 4, 1) := by decide +kernel
theorem dL_law_1202 : decode cL_law 1202 = .ok (.iadd, 1) := by decide +kernel
theorem dL_law_1203 : decode cL_law 1203 = .ok (.iaload, 1) := by decide +kernel
theorem dL_law_1204 : decode cL_law 1204 = .ok (.invokevirtual 150, 3) := by decide +kernel
theorem dL_law_1207 : decode cL_law 1207 = .ok (.aload_n 2, 1) := by decide +kernel
theorem dL_law_1208 : decode cL_law 1208 = .ok (.aload_n 0, 1) := by decide +kernel
theorem dL_law_1209 : decode cL_law 1209 = .ok (.iload_n 3, 1) := by decide +kernel
theorem dL_law_1210 : decode cL_law 1210 = .ok (.iconst 1, 1) := by decide +kernel
theorem dL_law_1211 : decode cL_law 1211 = .ok (.iadd, 1) := by decide +kernel
theorem dL_law_1212 : decode cL_law 1212 = .ok (.iaload, 1) := by decide +kernel
theorem dL_law_1213 : decode cL_law 1213 = .ok (.aload_n 0, 1) := by decide +kernel
theorem dL_law_1214 : decode cL_law 1214 = .ok (.iload_n 3, 1) := by decide +kernel
theorem dL_law_1215 : decode cL_law 1215 = .ok (.iconst 2, 1) := by decide +kernel
theorem dL_law_1216 : decode cL_law 1216 = .ok (.iadd, 1) := by decide +kernel
theorem dL_law_1217 : decode cL_law 1217 = .ok (.iaload, 1) := by decide +kernel
theorem dL_law_1218 : decode cL_law 1218 = .ok (.aload_n 0, 1) := by decide +kernel
theorem dL_law_1219 : decode cL_law 1219 = .ok (.iload_n 3, 1) := by decide +kernel
theorem dL_law_1220 : decode cL_law 1220 = .ok (.iconst 3, 1) := by decide +kernel
theorem dL_law_1221 : decode cL_law 1221 = .ok (.iadd, 1) := by decide +kernel
theorem dL_law_1222 : decode cL_law 1222 = .ok (.iaload, 1) := by decide +kernel
theorem dL_law_1223 : decode cL_law 1223 = .ok (.aload_n 0, 1) := by decide +kernel
theorem dL_law_1224 : decode cL_law 1224 = .ok (.iload_n 3, 1) := by decide +kernel
theorem dL_law_1225 : decode cL_law 1225 = .ok (.iconst 4, 1) := by decide +kernel
theorem dL_law_1226 : decode cL_law 1226 = .ok (.iadd, 1) := by decide +kernel
theorem dL_law_1227 : decode cL_law 1227 = .ok (.iaload, 1) := by decide +kernel
theorem dL_law_1228 : decode cL_law 1228 = .ok (.invokevirtual 154, 3) := by decide +kernel
theorem dL_law_1231 : decode cL_law 1231 = .ok (.if_icmp .eq 41, 3) := by decide +kernel
theorem dL_law_1234 : decode cL_law 1234 = .ok (.iconst 0, 1) := by decide +kernel
theorem dL_law_1235 : decode cL_law 1235 = .ok (.ireturn, 1) := by decide +kernel
theorem dL_law_1236 : decode cL_law 1236 = .ok (.aload_n 1, 1) := by decide +kernel
theorem dL_law_1237 : decode cL_law 1237 = .ok (.invokevirtual 155, 3) := by decide +kernel
theorem dL_law_1240 : decode cL_law 1240 = .ok (.aload_n 2, 1) := by decide +kernel
theorem dL_law_1241 : decode cL_law 1241 = .ok (.invokevirtual 158, 3) := by decide +kernel
theorem dL_law_1244 : decode cL_law 1244 = .ok (.if_icmp .eq 28, 3) := by decide +kernel
theorem dL_law_1247 : decode cL_law 1247 = .ok (.iconst 0, 1) := by decide +kernel
theorem dL_law_1248 : decode cL_law 1248 = .ok (.ireturn, 1) := by decide +kernel
theorem dL_law_1249 : decode cL_law 1249 = .ok (.aload_n 1, 1) := by decide +kernel
theorem dL_law_1250 : decode cL_law 1250 = .ok (.aload_n 0, 1) := by decide +kernel
theorem dL_law_1251 : decode cL_law 1251 = .ok (.iload_n 3, 1) := by decide +kernel
theorem dL_law_1252 : decode cL_law 1252 = .ok (.iconst 1, 1) := by decide +kernel
theorem dL_law_1253 : decode cL_law 1253 = .ok (.iadd, 1) := by decide +kernel
theorem dL_law_1254 : decode cL_law 1254 = .ok (.iaload, 1) := by decide +kernel
theorem dL_law_1255 : decode cL_law 1255 = .ok (.invokevirtual 159, 3) := by decide +kernel
theorem dL_law_1258 : decode cL_law 1258 = .ok (.aload_n 2, 1) := by decide +kernel
theorem dL_law_1259 : decode cL_law 1259 = .ok (.aload_n 0, 1) := by decide +kernel
theorem dL_law_1260 : decode cL_law 1260 = .ok (.iload_n 3, 1) := by decide +kernel
theorem dL_law_1261 : decode cL_law 1261 = .ok (.iconst 1, 1) := by decide +kernel
theorem dL_law_1262 : decode cL_law 1262 = .ok (.iadd, 1) := by decide +kernel
theorem dL_law_1263 : decode cL_law 1263 = .ok (.iaload, 1) := by decide +kernel
theorem dL_law_1264 : decode cL_law 1264 = .ok (.invokevirtual 162, 3) := by decide +kernel
theorem dL_law_1267 : decode cL_law 1267 = .ok (.if_icmp .eq 5, 3) := by decide +kernel
theorem dL_law_1270 : decode cL_law 1270 = .ok (.iconst 0, 1) := by decide +kernel
theorem dL_law_1271 : decode cL_law 1271 = .ok (.ireturn, 1) := by decide +kernel
theorem dL_law_1272 : decode cL_law 1272 = .ok (.iinc 3 5, 3) := by decide +kernel
theorem dL_law_1275 : decode cL_law 1275 = .ok (.goto (-1257), 3) := by decide +kernel
theorem dL_law_1278 : decode cL_law 1278 = .ok (.iconst 1, 1) := by decide +kernel
theorem dL_law_1279 : decode cL_law 1279 = .ok (.ireturn, 1) := by decide +kernel
