theorem dL_law_1012 : decode cL_law 1012 = .ok (.aload_n 1, 1) := by decide +kernel
theorem dL_law_1013 : decode cL_law 1013 = .ok (.aload_n 0, 1) := by decide +kernel
theorem dL_law_1014 : decode cL_law 1014 = .ok (.iload_n 3, 1) := by decide +kernel
theorem dL_law_1015 : decode cL_law 1015 = .ok (.iconst 1, 1) := by decide +kernel
theorem dL_law_1016 : decode cL_law 1016 = .ok (.iadd, 1) := by decide +kernel
theorem dL_law_1017 : decode cL_law 1017 = .ok (.iaload, 1) := by decide +kernel
theorem dL_law_1018 : decode cL_law 1018 = .ok (.aload_n 0, 1) := by decide +kernel
theorem dL_law_1019 : decode cL_law 1019 = .ok (.iload_n 3, 1) := by decide +kernel
theorem dL_law_1020 : decode cL_law 1020 = .ok (.iconst 2, 1) := by decide +kernel
theorem dL_law_1021 : decode cL_law 1021 = .ok (.iadd, 1) := by decide +kernel
theorem dL_law_1022 : decode cL_law 1022 = .ok (.iaload, 1) := by decide +kernel
theorem dL_law_1023 : decode cL_law 1023 = .ok (.aload_n 0, 1) := by decide +kernel
theorem dL_law_1024 : decode cL_law 1024 = .ok (.iload_n 3, 1) := by decide +kernel
theorem dL_law_1025 : decode cL_law 1025 = .ok (.iconst 3, 1) := by decide +kernel
theorem dL_law_1026 : decode cL_law 1026 = .ok (.iadd, 1) := by decide +kernel
theorem dL_law_1027 : decode cL_law 1027 = .ok (.iaload, 1) := by decide +kernel
theorem dL_law_1028 : decode cL_law 1028 = .ok (.invokevirtual 121, 3) := by decide +kernel
theorem dL_law_1031 : decode cL_law 1031 = .ok (.pop2, 1) := by decide +kernel
theorem dL_law_1032 : decode cL_law 1032 = .ok (.aload_n 2, 1) := by decide +kernel
theorem dL_law_1033 : decode cL_law 1033 = .ok (.aload_n 0, 1) := by decide +kernel
theorem dL_law_1034 : decode cL_law 1034 = .ok (.iload_n 3, 1) := by decide +kernel
theorem dL_law_1035 : decode cL_law 1035 = .ok (.iconst 1, 1) := by decide +kernel
theorem dL_law_1036 : decode cL_law 1036 = .ok (.iadd, 1) := by decide +kernel
theorem dL_law_1037 : decode cL_law 1037 = .ok (.iaload, 1) := by decide +kernel
theorem dL_law_1038 : decode cL_law 1038 = .ok (.aload_n 0, 1) := by decide +kernel
theorem dL_law_1039 : decode cL_law 1039 = .ok (.iload_n 3, 1) := by decide +kernel
theorem dL_law_1040 : decode cL_law 1040 = .ok (.iconst 2, 1) := by decide +kernel
theorem dL_law_1041 : decode cL_law 1041 = .ok (.iadd, 1) := by decide +kernel
theorem dL_law_1042 : decode cL_law 1042 = .ok (.iaload, 1) := by decide +kernel
theorem dL_law_1043 : decode cL_law 1043 = .ok (.aload_n 0, 1) := by decide +kernel
theorem dL_law_1044 : decode cL_law 1044 = .ok (.iload_n 3, 1) := by decide +kernel
theorem dL_law_1045 : decode cL_law 1045 = .ok (.iconst 3, 1) := by decide +kernel
theorem dL_law_1046 : decode cL_law 1046 = .ok (.iadd, 1) := by decide +kernel
theorem dL_law_1047 : decode cL_law 1047 = .ok (.iaload, 1) := by decide +kernel
theorem dL_law_1048 : decode cL_law 1048 = .ok (.invokevirtual 124, 3) := by decide +kernel
theorem dL_law_1051 : decode cL_law 1051 = .ok (.pop2, 1) := by decide +kernel
theorem dL_law_1052 : decode cL_law 1052 = .ok (.goto 221, 3) := by decide +kernel
theorem dL_law_1055 : decode cL_law 1055 = .ok (.aload_n 1, 1) := by decide +kernel
theorem dL_law_1056 : decode cL_law 1056 = .ok (.aload_n 0, 1) := by decide +kernel
theorem dL_law_1057 : decode cL_law 1057 = .ok (.iload_n 3, 1) := by decide +kernel
theorem dL_law_1058 : decode cL_law 1058 = .ok (.iconst 1, 1) := by decide +kernel
theorem dL_law_1059 : decode cL_law 1059 = .ok (.iadd, 1) := by decide +kernel
theorem dL_law_1060 : decode cL_law 1060 = .ok (.iaload, 1) := by decide +kernel
theorem dL_law_1061 : decode cL_law 1061 = .ok (.aload_n 0, 1) := by decide +kernel
theorem dL_law_1062 : decode cL_law 1062 = .ok (.iload_n 3, 1) := by decide +kernel
theorem dL_law_1063 : decode cL_law 1063 = .ok (.iconst 2, 1) := by decide +kernel
theorem dL_law_1064 : decode cL_law 1064 = .ok (.iadd, 1) := by decide +kernel
theorem dL_law_1065 : decode cL_law 1065 = .ok (.iaload, 1) := by decide +kernel
theorem dL_law_1066 : decode cL_law 1066 = .ok (.aload_n 0, 1) := by decide +kernel
theorem dL_law_1067 : decode cL_law 1067 = .ok (.iload_n 3, 1) := by decide +kernel
theorem dL_law_1068 : decode cL_law 1068 = .ok (.iconst 3, 1) := by decide +kernel
theorem dL_law_1069 : decode cL_law 1069 = .ok (.iadd, 1) := by decide +kernel
theorem dL_law_1070 : decode cL_law 1070 = .ok (.iaload, 1) := by decide +kernel
theorem dL_law_1071 : decode cL_law 1071 = .ok (.aload_n 0, 1) := by decide +kernel
theorem dL_law_1072 : decode cL_law 1072 = .ok (.iload_n 3, 1) := by decide +kernel
theorem dL_law_1073 : decode cL_law 1073 = .ok (.iconst 4, 1) := by decide +kernel
theorem dL_law_1074 : decode cL_law 1074 = .ok (.iadd, 1) := by decide +kernel
theorem dL_law_1075 : decode cL_law 1075 = .ok (.iaload, 1) := by decide +kernel
theorem dL_law_1076 : decode cL_law 1076 = .ok (.invokevirtual 125, 3) := by decide +kernel
theorem dL_law_1079 : decode cL_law 1079 = .ok (.pop2, 1) := by decide +kernel
theorem dL_law_1080 : decode cL_law 1080 = .ok (.aload_n 2, 1) := by decide +kernel
theorem dL_law_1081 : decode cL_law 1081 = .ok (.aload_n 0, 1) := by decide +kernel
theorem dL_law_1082 : decode cL_law 1082 = .ok (.iload_n 3, 1) := by decide +kernel
theorem dL_law_1083 : decode cL_law 1083 = .ok (.iconst 1, 1) := by decide +kernel
theorem dL_law_1084 : decode cL_law 1084 = .ok (.iadd, 1) := by decide +kernel
theorem dL_law_1085 : decode cL_law 1085 = .ok (.iaload, 1) := by decide +kernel
theorem dL_law_1086 : decode cL_law 1086 = .ok (.aload_n 0, 1) := by decide +kernel
theorem dL_law_1087 : decode cL_law 1087 = .ok (.iload_n 3, 1) := by decide +kernel
theorem dL_law_1088 : decode cL_law 1088 = .ok (.iconst 2, 1) := by decide +kernel
theorem dL_law_1089 : decode cL_law 1089 = .ok (.iadd, 1) := by decide +kernel
theorem dL_law_1090 : decode cL_law 1090 = .ok (.iaload, 1) := by decide +kernel
theorem dL_law_1091 : decode cL_law 1091 = .ok (.aload_n 0, 1) := by decide +kernel
theorem dL_law_1092 : decode cL_law 1092 = .ok (.iload_n 3, 1) := by decide +kernel
theorem dL_law_1093 : decode cL_law 1093 = .ok (.iconst 3, 1) := by decide +kernel
theorem dL_law_1094 : decode cL_law 1094 = .ok (.iadd, 1) := by decide +kernel
theorem dL_law_1095 : decode cL_law 1095 = .ok (.iaload, 1) := by decide +kernel
theorem dL_law_1096 : decode cL_law 1096 = .ok (.aload_n 0, 1) := by decide +kernel
theorem dL_law_1097 : decode cL_law 1097 = .ok (.iload_n 3, 1) := by decide +kernel
theorem dL_law_1098 : decode cL_law 1098 = .ok (.iconst 4, 1) := by decide +kernel
theorem dL_law_1099 : decode cL_law 1099 = .ok (.iadd, 1) := by decide +kernel
theorem dL_law_1100 : decode cL_law 1100 = .ok (.iaload, 1) := by decide +kernel
theorem dL_law_1101 : decode cL_law 1101 = .ok (.invokevirtual 129, 3) := by decide +kernel
theorem dL_law_1104 : decode cL_law 1104 = .ok (.pop2, 1) := by decide +kernel
theorem dL_law_1105 : decode cL_law 1105 = .ok (.goto 168, 3) := by decide +kernel
theorem dL_law_1108 : decode cL_law 1108 = .ok (.aload_n 1, 1) := by decide +kernel
theorem dL_law_1109 : decode cL_law 1109 = .ok (.aload_n 0, 1) := by decide +kernel
theorem dL_law_1110 : decode cL_law 1110 = .ok (.iload_n 3, 1) := by decide +kernel
theorem dL_law_1111 : decode cL_law 1111 = .ok (.iconst 1, 1) := by decide +kernel
theorem dL_law_1112 : decode cL_law 1112 = .ok (.iadd, 1) := by decide +kernel
theorem dL_law_1113 : decode cL_law 1113 = .ok (.iaload, 1) := by decide +kernel
theorem dL_law_1114 : decode cL_law 1114 = .ok (.invokevirtual 130, 3) := by decide +kernel
theorem dL_law_1117 : decode cL_law 1117 = .ok (.aload_n 2, 1) := by decide +kernel
theorem dL_law_1118 : decode cL_law 1118 = .ok (.aload_n 0, 1) := by decide +kernel
theorem dL_law_1119 : decode cL_law 1119 = .ok (.iload_n 3, 1) := by decide +kernel
theorem dL_law_1120 : decode cL_law 1120 = .ok (.iconst 1, 1) := by decide +kernel
theorem dL_law_1121 : decode cL_law 1121 = .ok (.iadd, 1) := by decide +kernel
theorem dL_law_1122 : decode cL_law 1122 = .ok (.iaload, 1) := by decide +kernel
theorem dL_law_1123 : decode cL_law 1123 = .ok (.invokevirtual 134, 3) := by decide +kernel
theorem dL_law_1126 : decode cL_law 1126 = .ok (.if_icmp .eq 147, 3) := by decide +kernel
theorem dL_law_1131 : decode cL_law 1131 = .ok (.aload_n 1, 1) := by decide +kernel
theorem dL_law_1132 : decode cL_law 1132 = .ok (.aload_n 0, 1) := by decide +kernel
theorem dL_law_1133 : decode cL_law 1133 = .ok (.iload_n 3, 1) := by decide +kernel
theorem dL_law_1134 : decode cL_law 1134 = .ok (.iconst 1, 1) := by decide +kernel
theorem dL_law_1135 : decode cL_law 1135 = .ok (.iadd, 1) := by decide +kernel
theorem dL_law_1136 : decode cL_law 1136 = .ok (.iaload, 1) := by decide +kernel
theorem dL_law_1137 : decode cL_law 1137 = .ok (.aload_n 0, 1) := by decide +kernel
theorem dL_law_1138 : decode cL_law 1138 = .ok (.iload_n 3, 1) := by decide +kernel
theorem dL_law_1139 : decode cL_law 1139 = .ok (.iconst 2, 1) := by decide +kernel
theorem dL_law_1140 : decode cL_law 1140 = .ok (.iadd, 1) := by decide +kernel
theorem dL_law_1141 : decode cL_law 1141 = .ok (.iaload, 1) := by decide +kernel
theorem dL_law_1142 : decode cL_law 1142 = .ok (.aload_n 0, 1) := by decide +kernel
theorem dL_law_1143 : decode cL_law 1143 = .ok (.iload_n 3, 1) := by decide +kernel
theorem dL_law_1144 : decode cL_law 1144 = .ok (.iconst 3, 1) := by decide +kernel
theorem dL_law_1145 : decode cL_law 1145 = .ok (.iadd, 1) := by decide +kernel
theorem dL_law_1146 : decode cL_law 1146 = .ok (.iaload, 1) := by decide +kernel
theorem dL_law_1147 : decode cL_law 1147 = .ok (.invokevirtual 135, 3) := by decide +kernel
theorem dL_law_1150 : decode cL_law 1150 = .ok (.pop, 1) := by decide +kernel
theorem dL_law_1151 : decode cL_law 1151 = .ok (.aload_n 2, 1) := by decide +kernel
theorem dL_law_1152 : decode cL_law 1152 = .ok (.aload_n 0, 1) := by decide +kernel
theorem dL_law_1153 : decode cL_law 1153 = .ok (.iload_n 3, 1) := by decide +kernel
theorem dL_law_1154 : decode cL_law 1154 = .ok (.iconst 1, 1) := by decide +kernel
theorem dL_law_1155 : decode cL_law 1155 = .ok (.iadd, 1) := by decide +kernel
theorem dL_law_1156 : decode cL_law 1156 = .ok (.iaload, 1) := by decide +kernel
theorem dL_law_1157 : decode cL_law 1157 = .ok (.aload_n 0, 1) := by decide +kernel
theorem dL_law_1158 : decode cL_law 1158 = .ok (.iload_n 3, 1) := by decide +kernel
theorem dL_law_1159 : decode cL_law 1159 = .ok (.iconst 2, 1) := by decide +kernel
theorem dL_law_1160 : decode cL_law 1160 = .ok (.iadd, 1) := by decide +kernel
theorem dL_law_1161 : decode cL_law 1161 = .ok (.iaload, 1) := by decide +kernel
theorem dL_law_1162 : decode cL_law 1162 = .ok (.aload_n 0, 1) := by decide +kernel
theorem dL_law_1163 : decode cL_law 1163 = .ok (.iload_n 3, 1) := by decide +kernel
theorem dL_law_1164 : decode cL_law 1164 = .ok (.iconst 3, 1) := by decide +kernel
theorem dL_law_1165 : decode cL_law 1165 = .ok (.iadd, 1) := by decide +kernel
theorem dL_law_1166 : decode cL_law 1166 = .ok (.iaload, 1) := by decide +kernel
theorem dL_law_1167 : decode cL_law 1167 = .ok (.invokevirtual 138, 3) := by decide +kernel
theorem dL_law_1170 : decode cL_law 1170 = .ok (.pop, 1) := by decide +kernel
theorem dL_law_1171 : decode cL_law 1171 = .ok (.goto 102, 3) := by decide +kernel
theorem dL_law_1174 : decode cL_law 1174 = .ok (.aload_n 1, 1) := by decide +kernel
theorem dL_law_1175 : decode cL_law 1175 = .ok (.aload_n 0, 1) := by decide +kernel
theorem dL_law_1176 : decode cL_law 1176 = .ok (.iload_n 3, 1) := by decide +kernel
theorem dL_law_1177 : decode cL_law 1177 = .ok (.iconst 1, 1) := by decide +kernel
theorem dL_law_1178 : decode cL_law 1178 = .ok (.iadd, 1) := by decide +kernel
theorem dL_law_1179 : decode cL_law 1179 = .ok (.iaload, 1) := by decide +kernel
theorem dL_law_1180 : decode cL_law 1180 = .ok (.aload_n 0, 1) := by decide +kernel
theorem dL_law_1181 : decode cL_law 1181 = .ok (.iload_n 3, 1) := by decide +kernel
theorem dL_law_1182 : decode cL_law 1182 = .ok (.iconst 2, 1) := by decide +kernel
theorem dL_law_1183 : decode cL_law 1183 = .ok (.iadd, 1) := by decide +kernel
theorem dL_law_1184 : decode cL_law 1184 = .ok (.iaload, 1) := by decide +kernel
theorem dL_law_1185 : decode cL_law 1185 = .ok (.invokevirtual 139, 3) := by decide +kernel
theorem dL_law_1188 : decode cL_law 1188 = .ok (.pop, 1) := by decide +kernel
theorem dL_law_1189 : decode cL_law 1189 = .ok (.aload_n 2, 1) := by decide +kernel
theorem dL_law_1190 : decode cL_law 1190 = .ok (.aload_n 0, 1) := by decide +kernel
theorem dL_law_1191 : decode cL_law 1191 = .ok (.iload_n 3, 1) := by decide +kernel
theorem dL_law_1192 : decode cL_law 1192 = .ok (.iconst 1, 1) := by decide +kernel
theorem dL_law_1193 : decode cL_law 1193 = .ok (.iadd, 1) := by decide +kernel
theorem dL_law_1194 : decode cL_law 1194 = .ok (.iaload, 1) := by decide +kernel
theorem dL_law_1195 : decode cL_law 1195 = .ok (.aload_n 0, 1) := by decide +kernel
theorem dL_law_1196 : decode cL_law 1196 = .ok (.iload_n 3, 1) := by decide +kernel
theorem dL_law_1197 : decode cL_law 1197 = .ok (.iconst 2, 1) := by decide +kernel
theorem dL_law_1198 : decode cL_law 1198 = .ok (.iadd, 1) := by decide +kernel
theorem dL_law_1199 : decode cL_law 1199 = .ok (.iaload, 1) := by decide +kernel
theorem dL_law_1200 : decode cL_law 1200 = .ok (.invokevirtual 142, 3) := by decide +kernel
theorem dL_law_1203 : decode cL_law 1203 = .ok (.pop, 1) := by decide +kernel
theorem dL_law_1204 : decode cL_law 1204 = .ok (.goto 69, 3) := by decide +kernel
theorem dL_law_1207 : decode cL_law 1207 = .ok (.aload_n 1, 1) := by decide +kernel
theorem dL_law_1208 : decode cL_law 1208 = .ok (.aload_n 0, 1) := by decide +kernel
theorem dL_law_1209 : decode cL_law 1209 = .ok (.iload_n 3, 1) := by decide +kernel
theorem dL_law_1210 : decode cL_law 1210 = .ok (.iconst 1, 1) := by decide +kernel
theorem dL_law_1211 : decode cL_law 1211 = .ok (.iadd, 1) := by decide +kernel
theorem dL_law_1212 : decode cL_law 1212 = .ok (.iaload, 1) := by decide +kernel
theorem dL_law_1213 : decode cL_law 1213 = .ok (.aload_n 0, 1) := by decide +kernel
theorem dL_law_1214 : decode cL_law 1214 = .ok (.iload_n 3, 1) := by decide +kernel
theorem dL_law_1215 : decode cL_law 1215 = .ok (.iconst 2, 1) := by decide +kernel
theorem dL_law_1216 : decode cL_law 1216 = .ok (.iadd, 1) := by decide +kernel
theorem dL_law_1217 : decode cL_law 1217 = .ok (.iaload, 1) := by decide +kernel
theorem dL_law_1218 : decode cL_law 1218 = .ok (.aload_n 0, 1) := by decide +kernel
theorem dL_law_1219 : decode cL_law 1219 = .ok (.iload_n 3, 1) := by decide +kernel
theorem dL_law_1220 : decode cL_law 1220 = .ok (.iconst 3, 1) := by decide +kernel
theorem dL_law_1221 : decode cL_law 1221 = .ok (.iadd, 1) := by decide +kernel
theorem dL_law_1222 : decode cL_law 1222 = .ok (.iaload, 1) := by decide +kernel
theorem dL_law_1223 : decode cL_law 1223 = .ok (.invokevirtual 143, 3) := by decide +kernel
theorem dL_law_1226 : decode cL_law 1226 = .ok (.pop, 1) := by decide +kernel
theorem dL_law_1227 : decode cL_law 1227 = .ok (.aload_n 2, 1) := by decide +kernel
theorem dL_law_1228 : decode cL_law 1228 = .ok (.aload_n 0, 1) := by decide +kernel
theorem dL_law_1229 : decode cL_law 1229 = .ok (.iload_n 3, 1) := by decide +kernel
theorem dL_law_1230 : decode cL_law 1230 = .ok (.iconst 1, 1) := by decide +kernel
theorem dL_law_1231 : decode cL_law 1231 = .ok (.iadd, 1) := by decide +kernel
theorem dL_law_1232 : decode cL_law 1232 = .ok (.iaload, 1) := by decide +kernel
theorem dL_law_1233 : decode cL_law 1233 = .ok (.aload_n 0, 1) := by decide +kernel
theorem dL_law_1234 : decode cL_law 1234 = .ok (.iload_n 3, 1) := by decide +kernel
theorem dL_law_1235 : decode cL_law 1235 = .ok (.iconst 2, 1) := by decide +kernel
theorem dL_law_1236 : decode cL_law 1236 = .ok (.iadd, 1) := by decide +kernel
theorem dL_law_1237 : decode cL_law 1237 = .ok (.iaload, 1) := by decide +kernel
theorem dL_law_1238 : decode cL_law 1238 = .ok (.aload_n 0, 1) := by decide +kernel
theorem dL_law_1239 : decode cL_law 1239 = .ok (.iload_n 3, 1) := by decide +kernel
theorem dL_law_1240 : decode cL_law 1240 = .ok (.iconst 3, 1) := by decide +kernel
theorem dL_law_1241 : decode cL_law 1241 = .ok (.iadd, 1) := by decide +kernel
theorem dL_law_1242 : decode cL_law 1242 = .ok (.iaload, 1) := by decide +kernel
theorem dL_law_1243 : decode cL_law 1243 = .ok (.invokevirtual 146, 3) := by decide +kernel
theorem dL_law_1246 : decode cL_law 1246 = .ok (.pop, 1) := by decide +kernel
theorem dL_law_1247 : decode cL_law 1247 = .ok (.goto 26, 3) := by decide +kernel
theorem dL_law_1250 : decode cL_law 1250 = .ok (.aload_n 1, 1) := by decide +kernel
theorem dL_law_1251 : decode cL_law 1251 = .ok (.aload_n 0, 1) := by decide +kernel
theorem dL_law_1252 : decode cL_law 1252 = .ok (.iload_n 3, 1) := by decide +kernel
theorem dL_law_1253 : decode cL_law 1253 = .ok (.iconst 1, 1) := by decide +kernel
theorem dL_law_1254 : decode cL_law 1254 = .ok (.iadd, 1) := by decide +kernel
theorem dL_law_1255 : decode cL_law 1255 = .ok (.iaload, 1) := by decide +kernel
theorem dL_law_1256 : decode cL_law 1256 = .ok (.invokevirtual 147, 3) := by decide +kernel
theorem dL_law_1259 : decode cL_law 1259 = .ok (.pop, 1) := by decide +kernel
theorem dL_law_1260 : decode cL_law 1260 = .ok (.aload_n 2, 1) := by decide +kernel
theorem dL_law_1261 : decode cL_law 1261 = .ok (.aload_n 0, 1) := by decide +kernel
theorem dL_law_1262 : decode cL_law 1262 = .ok (.iload_n 3, 1) := by decide +kernel
theorem dL_law_1263 : decode cL_law 1263 = .ok (.iconst 1, 1) := by decide +kernel
theorem dL_law_1264 : decode cL_law 1264 = .ok (.iadd, 1) := by decide +kernel
theorem dL_law_1265 : decode cL_law 1265 = .ok (.iaload, 1) := by decide +kernel
theorem dL_law_1266 : decode cL_law 1266 = .ok (.invokevirtual 150, 3) := by decide +kernel
theorem dL_law_1269 : decode cL_law 1269 = .ok (.pop, 1) := by decide +kernel
theorem dL_law_1270 : decode cL_law 1270 = .ok (.goto 3, 3) := by decide +kernel
set_option maxHeartbeats 4000000 in
set_option maxRecDepth 100000 in
theorem law_24 {p : Program} {l : Launch} {e : Env} {s : State} {m : MethodId} {below : List Frame} {meth : Method} {c : Code} {b L : Nat} {xs : Nat → Int32} (C0 : lw_At p s m meth c b L xs) (hE : Ey s) {A : Nat → Prop} (hAe : A = fun q : Nat => s.heap.size ≤ q) {dC : Nat → ClassId} {dI : Nat → Nat → Nat} {adK adV : Nat → Nat} (hZ : Zs adK adV A s s.heap) (hR : Rs adK s) {κ : CE} {φ ψ σ : MS} {h : Nat} {ad : Nat → Nat} {cl : Nat → ClassId} {μ : MS} {H : Heap} {locs : List Loc} {cells slots : Nat} {i : Int32} {ls : Array Slot} (hi : 0 ≤ i.toInt ∧ i.toInt + 5 < (L : Int) ∧ L ≤ 3072) (hc : cells + 1011 ≤ 600000 ∧ slots + 43534 ≤ 7302250) (G : LG dC dI A s κ φ ψ σ h ad cl μ H locs) (hl : lv_has ls 4 [(3, .int i), (1, .ref (kA κ 0)), (2, .ref h), (0, .ref b)]) {Q : State → Prop}
    (kk : ∀ (κ' : CE) (φ' ψ' σ' μ' : MS) (H' : Heap) (locs' : List Loc) (c' t' : Nat), LG dC dI A s κ' φ' ψ' σ' h ad cl μ' H' locs' → kA κ' 0 = kA κ 0 → c' + 3 * bc κ ≤ cells + 1008 + 3 * bc κ' → t' + 32489 * bc κ ≤ slots + 11045 + 32489 * bc κ' → W p l e room_1 s m #[Value.ref b] below meth c H' locs' c' t' Q (F0 m 1273 ls [])) : W p l e room_1 s m #[Value.ref b] below meth c H locs cells slots Q (F0 m 1012 ls []) := by
  obtain ⟨hx, hb, hr, hml, hown, hts, hX, hbl, hlocks, hgv⟩ := id C0
  have hA : ∀ q : Nat, s.heap.size ≤ q → A q := fun q h => by rw [hAe]; exact h
  have hbA : ¬ A b := by rw [hAe]; exact Nat.not_le.mpr hbl
  obtain ⟨hP, hD, hS, hKm, hKx, hk, hI, hF, hM, hRI⟩ := G
  have hKc : va_K (dC, dI) vwCl (cT κ) s := hKx.sub [0, 1, 2, 3, 4, 5, 6, 7, 8, 9, 10, 11, 12, 13, 14, 15, 16, 17, 18, 19, 20] rfl
  refine lv_aload_n hx hb dL_law_1012 rfl (lv_at hl 1 rfl) ?_
  refine lv_aload_n hx hb dL_law_1013 rfl (lv_at hl 3 rfl) ?_
  refine lv_iload_n hx hb dL_law_1014 rfl (lv_at hl 0 rfl) ?_
  refine lv_iconst (v := 1) hx hb dL_law_1015 (by decide) ?_
  refine lv_iadd hx hb dL_law_1016 ?_
  refine lv_topi (fun z1_ ez1_ => ?_)
  have tz1_ : z1_.toInt = i.toInt + 1 := ti_add ez1_ rfl (by decide) (by omega) (by omega)
  refine va_sld hx hb hX hbl hbA hS (sx_in tz1_ hi.1 (by decide) (by omega)) dL_law_1017 ?_
  refine lv_topi (fun y2_ ey2_ => ?_)
  refine lv_aload_n hx hb dL_law_1018 rfl (lv_at hl 3 rfl) ?_
  refine lv_iload_n hx hb dL_law_1019 rfl (lv_at hl 0 rfl) ?_
  refine lv_iconst (v := 2) hx hb dL_law_1020 (by decide) ?_
  refine lv_iadd hx hb dL_law_1021 ?_
  refine lv_topi (fun z3_ ez3_ => ?_)
  have tz3_ : z3_.toInt = i.toInt + 2 := ti_add ez3_ rfl (by decide) (by omega) (by omega)
  refine va_sld hx hb hX hbl hbA hS (sx_in tz3_ hi.1 (by decide) (by omega)) dL_law_1022 ?_
  refine lv_topi (fun y4_ ey4_ => ?_)
  refine lv_aload_n hx hb dL_law_1023 rfl (lv_at hl 3 rfl) ?_
  refine lv_iload_n hx hb dL_law_1024 rfl (lv_at hl 0 rfl) ?_
  refine lv_iconst (v := 3) hx hb dL_law_1025 (by decide) ?_
  refine lv_iadd hx hb dL_law_1026 ?_
  refine lv_topi (fun z5_ ez5_ => ?_)
  have tz5_ : z5_.toInt = i.toInt + 3 := ti_add ez5_ rfl (by decide) (by omega) (by omega)
  refine va_sld hx hb hX hbl hbA hS (sx_in tz5_ hi.1 (by decide) (by omega)) dL_law_1027 ?_
  refine lv_topi (fun y6_ ey6_ => ?_)
  have hP := lxP hP
  have hD := lxD hD
  refine zc_l (wr := (mW h ad cl μ)) (wc := cW (ky κ (xX κ φ ψ)) σ) (va_runV (As := [.int y2_, .int y4_, .int y6_]) (rest := []) ⟨hx, hb, hml, hown, hts⟩ (k_worst l dC dI (ky κ (xX κ φ ψ)) H.size σ y2_ y4_ y6_ hk hI ) (cwV 3 hts gl_k_worst rfl rfl rfl dd_k_worst ⟨Nat.le_of_ble_eq_true rfl, Nat.le_of_ble_eq_true rfl⟩) (preVy (rP hP) hKc (rD hD) hE (ci := 11) (q0 := 0) rfl rfl) rfl rfl hl.1 rfl (lv_room (Nat.le_of_ble_eq_true rfl)) dL_law_1028 ⟨(show cells + 0 ≤ 600000 by omega), (show slots + 0 ≤ 7302250 by omega)⟩) hP hD hS hA (fun j8_ τ9_ H locs hq _ hP hD hS => ?_)
  obtain ⟨hτ9_, qτ9_⟩ := hq
  have hP := xlP hP
  have hD := xlD hD
  refine W.widen (k := cells) (n := slots) (Nat.le_refl _) (Nat.le_refl _) ?_
  refine lv_pop2_2 hx hb dL_law_1031 rfl ?_
  refine lv_aload_n hx hb dL_law_1032 rfl (lv_at hl 2 rfl) ?_
  refine lv_aload_n hx hb dL_law_1033 rfl (lv_at hl 3 rfl) ?_
  refine lv_iload_n hx hb dL_law_1034 rfl (lv_at hl 0 rfl) ?_
  refine lv_iconst (v := 1) hx hb dL_law_1035 (by decide) ?_
  refine lv_iadd hx hb dL_law_1036 ?_
  refine lv_topi (fun z10_ ez10_ => ?_)
  have tz10_ : z10_.toInt = i.toInt + 1 := ti_add ez10_ rfl (by decide) (by omega) (by omega)
  refine va_sld hx hb hX hbl hbA hS (sx_in tz10_ hi.1 (by decide) (by omega)) dL_law_1037 ?_
  refine lv_topi (fun y11_ ey11_ => ?_)
  have qy11_ : y11_ = y2_ := by rw [ey11_, ey2_, show z10_ = z1_ from Int32.toInt_inj.mp (by omega)]
  refine lv_aload_n hx hb dL_law_1038 rfl (lv_at hl 3 rfl) ?_
  refine lv_iload_n hx hb dL_law_1039 rfl (lv_at hl 0 rfl) ?_
  refine lv_iconst (v := 2) hx hb dL_law_1040 (by decide) ?_
  refine lv_iadd hx hb dL_law_1041 ?_
  refine lv_topi (fun z12_ ez12_ => ?_)
  have tz12_ : z12_.toInt = i.toInt + 2 := ti_add ez12_ rfl (by decide) (by omega) (by omega)
  refine va_sld hx hb hX hbl hbA hS (sx_in tz12_ hi.1 (by decide) (by omega)) dL_law_1042 ?_
  refine lv_topi (fun y13_ ey13_ => ?_)
  have qy13_ : y13_ = y4_ := by rw [ey13_, ey4_, show z12_ = z3_ from Int32.toInt_inj.mp (by omega)]
  refine lv_aload_n hx hb dL_law_1043 rfl (lv_at hl 3 rfl) ?_
  refine lv_iload_n hx hb dL_law_1044 rfl (lv_at hl 0 rfl) ?_
  refine lv_iconst (v := 3) hx hb dL_law_1045 (by decide) ?_
  refine lv_iadd hx hb dL_law_1046 ?_
  refine lv_topi (fun z14_ ez14_ => ?_)
  have tz14_ : z14_.toInt = i.toInt + 3 := ti_add ez14_ rfl (by decide) (by omega) (by omega)
  refine va_sld hx hb hX hbl hbA hS (sx_in tz14_ hi.1 (by decide) (by omega)) dL_law_1047 ?_
  refine lv_topi (fun y15_ ey15_ => ?_)
  have qy15_ : y15_ = y6_ := by rw [ey15_, ey6_, show z14_ = z5_ from Int32.toInt_inj.mp (by omega)]
  refine zp_l (wc := (mW h ad cl μ)) (wr := (xW κ (xX κ φ ψ) τ9_)) (va_runV (As := [.int y11_, .int y13_, .int y15_]) (rest := []) ⟨hx, hb, hml, hown, hts⟩ (n_worst l dC dI h ad cl H.size μ y11_ y13_ y15_ hM hRI.1 hRI.2.2.1) (cwV 3 hts gl_n_worst rfl rfl rfl dd_n_worst ⟨Nat.le_of_ble_eq_true rfl, Nat.le_of_ble_eq_true rfl⟩) (preV (lP hP) hKm (lD hD) hE.x (ci := 12) (q0 := 0) rfl rfl) rfl rfl hl.1 rfl (lv_room (Nat.le_of_ble_eq_true rfl)) dL_law_1048 ⟨(show cells + 0 ≤ 600000 by omega), (show slots + 0 ≤ 7302250 by omega)⟩) hP hD hS hA (fun j16_ μ17_ H locs hq hP hD hS => ?_)
  obtain ⟨hμ17_, xμ17_⟩ := hq
  have iμ17_ : RI μ17_ := RI_scr hM hRI xμ17_
  refine W.widen (k := cells) (n := slots) (Nat.le_refl _) (Nat.le_refl _) ?_
  refine lv_pop2_2 hx hb dL_law_1051 rfl ?_
  refine lv_goto (tgt := 1273) hx hb dL_law_1052 (by decide) ?_
  have hG9_ : LG dC dI A s κ φ ψ τ9_ h ad cl μ17_ H locs := ⟨hP, hD, hS, hKm, hKx, hk, hτ9_, hF, hμ17_, iμ17_⟩
  exact kk _ _ _ _ _ _ _ cells slots hG9_ rfl (by omega) (by omega)
set_option maxHeartbeats 4000000 in
set_option maxRecDepth 100000 in
theorem law_25 {p : Program} {l : Launch} {e : Env} {s : State} {m : MethodId} {below : List Frame} {meth : Method} {c : Code} {b L : Nat} {xs : Nat → Int32} (C0 : lw_At p s m meth c b L xs) (hE : Ey s) {A : Nat → Prop} (hAe : A = fun q : Nat => s.heap.size ≤ q) {dC : Nat → ClassId} {dI : Nat → Nat → Nat} {adK adV : Nat → Nat} (hZ : Zs adK adV A s s.heap) (hR : Rs adK s) {κ : CE} {φ ψ σ : MS} {h : Nat} {ad : Nat → Nat} {cl : Nat → ClassId} {μ : MS} {H : Heap} {locs : List Loc} {cells slots : Nat} {i : Int32} {ls : Array Slot} (hi : 0 ≤ i.toInt ∧ i.toInt + 5 < (L : Int) ∧ L ≤ 3072) (hc : cells + 1011 ≤ 600000 ∧ slots + 43534 ≤ 7302250) (G : LG dC dI A s κ φ ψ σ h ad cl μ H locs) (hl : lv_has ls 4 [(3, .int i), (1, .ref (kA κ 0)), (2, .ref h), (0, .ref b)]) {Q : State → Prop}
    (kk : ∀ (κ' : CE) (φ' ψ' σ' μ' : MS) (H' : Heap) (locs' : List Loc) (c' t' : Nat), LG dC dI A s κ' φ' ψ' σ' h ad cl μ' H' locs' → kA κ' 0 = kA κ 0 → c' + 3 * bc κ ≤ cells + 1008 + 3 * bc κ' → t' + 32489 * bc κ ≤ slots + 11045 + 32489 * bc κ' → W p l e room_1 s m #[Value.ref b] below meth c H' locs' c' t' Q (F0 m 1273 ls [])) : W p l e room_1 s m #[Value.ref b] below meth c H locs cells slots Q (F0 m 1055 ls []) := by
  obtain ⟨hx, hb, hr, hml, hown, hts, hX, hbl, hlocks, hgv⟩ := id C0
  have hA : ∀ q : Nat, s.heap.size ≤ q → A q := fun q h => by rw [hAe]; exact h
  have hbA : ¬ A b := by rw [hAe]; exact Nat.not_le.mpr hbl
  obtain ⟨hP, hD, hS, hKm, hKx, hk, hI, hF, hM, hRI⟩ := G
  have hKc : va_K (dC, dI) vwCl (cT κ) s := hKx.sub [0, 1, 2, 3, 4, 5, 6, 7, 8, 9, 10, 11, 12, 13, 14, 15, 16, 17, 18, 19, 20] rfl
  refine lv_aload_n hx hb dL_law_1055 rfl (lv_at hl 1 rfl) ?_
  refine lv_aload_n hx hb dL_law_1056 rfl (lv_at hl 3 rfl) ?_
  refine lv_iload_n hx hb dL_law_1057 rfl (lv_at hl 0 rfl) ?_
  refine lv_iconst (v := 1) hx hb dL_law_1058 (by decide) ?_
  refine lv_iadd hx hb dL_law_1059 ?_
  refine lv_topi (fun z1_ ez1_ => ?_)
  have tz1_ : z1_.toInt = i.toInt + 1 := ti_add ez1_ rfl (by decide) (by omega) (by omega)
  refine va_sld hx hb hX hbl hbA hS (sx_in tz1_ hi.1 (by decide) (by omega)) dL_law_1060 ?_
  refine lv_topi (fun y2_ ey2_ => ?_)
  refine lv_aload_n hx hb dL_law_1061 rfl (lv_at hl 3 rfl) ?_
  refine lv_iload_n hx hb dL_law_1062 rfl (lv_at hl 0 rfl) ?_
  refine lv_iconst (v := 2) hx hb dL_law_1063 (by decide) ?_
  refine lv_iadd hx hb dL_law_1064 ?_
  refine lv_topi (fun z3_ ez3_ => ?_)
  have tz3_ : z3_.toInt = i.toInt + 2 := ti_add ez3_ rfl (by decide) (by omega) (by omega)
  refine va_sld hx hb hX hbl hbA hS (sx_in tz3_ hi.1 (by decide) (by omega)) dL_law_1065 ?_
  refine lv_topi (fun y4_ ey4_ => ?_)
  refine lv_aload_n hx hb dL_law_1066 rfl (lv_at hl 3 rfl) ?_
  refine lv_iload_n hx hb dL_law_1067 rfl (lv_at hl 0 rfl) ?_
  refine lv_iconst (v := 3) hx hb dL_law_1068 (by decide) ?_
  refine lv_iadd hx hb dL_law_1069 ?_
  refine lv_topi (fun z5_ ez5_ => ?_)
  have tz5_ : z5_.toInt = i.toInt + 3 := ti_add ez5_ rfl (by decide) (by omega) (by omega)
  refine va_sld hx hb hX hbl hbA hS (sx_in tz5_ hi.1 (by decide) (by omega)) dL_law_1070 ?_
  refine lv_topi (fun y6_ ey6_ => ?_)
  refine lv_aload_n hx hb dL_law_1071 rfl (lv_at hl 3 rfl) ?_
  refine lv_iload_n hx hb dL_law_1072 rfl (lv_at hl 0 rfl) ?_
  refine lv_iconst (v := 4) hx hb dL_law_1073 (by decide) ?_
  refine lv_iadd hx hb dL_law_1074 ?_
  refine lv_topi (fun z7_ ez7_ => ?_)
  have tz7_ : z7_.toInt = i.toInt + 4 := ti_add ez7_ rfl (by decide) (by omega) (by omega)
  refine va_sld hx hb hX hbl hbA hS (sx_in tz7_ hi.1 (by decide) (by omega)) dL_law_1075 ?_
  refine lv_topi (fun y8_ ey8_ => ?_)
  have hP := lxP hP
  have hD := lxD hD
  refine zc_l (wr := (mW h ad cl μ)) (wc := cW (ky κ (xX κ φ ψ)) σ) (va_runV (As := [.int y2_, .int y4_, .int y6_, .int y8_]) (rest := []) ⟨hx, hb, hml, hown, hts⟩ (k_led l dC dI (ky κ (xX κ φ ψ)) H.size σ y2_ y4_ y6_ y8_ hk hI ) (cwV 4 hts gl_k_led rfl rfl rfl dd_k_led ⟨Nat.le_of_ble_eq_true rfl, Nat.le_of_ble_eq_true rfl⟩) (preVy (rP hP) hKc (rD hD) hE (ci := 11) (q0 := 0) rfl rfl) rfl rfl hl.1 rfl (lv_room (Nat.le_of_ble_eq_true rfl)) dL_law_1076 ⟨(show cells + 0 ≤ 600000 by omega), (show slots + 0 ≤ 7302250 by omega)⟩) hP hD hS hA (fun j10_ τ11_ H locs hq _ hP hD hS => ?_)
  obtain ⟨hτ11_, qτ11_⟩ := hq
  have hP := xlP hP
  have hD := xlD hD
  refine W.widen (k := cells) (n := slots) (Nat.le_refl _) (Nat.le_refl _) ?_
  refine lv_pop2_2 hx hb dL_law_1079 rfl ?_
  refine lv_aload_n hx hb dL_law_1080 rfl (lv_at hl 2 rfl) ?_
  refine lv_aload_n hx hb dL_law_1081 rfl (lv_at hl 3 rfl) ?_
  refine lv_iload_n hx hb dL_law_1082 rfl (lv_at hl 0 rfl) ?_
  refine lv_iconst (v := 1) hx hb dL_law_1083 (by decide) ?_
  refine lv_iadd hx hb dL_law_1084 ?_
  refine lv_topi (fun z12_ ez12_ => ?_)
  have tz12_ : z12_.toInt = i.toInt + 1 := ti_add ez12_ rfl (by decide) (by omega) (by omega)
  refine va_sld hx hb hX hbl hbA hS (sx_in tz12_ hi.1 (by decide) (by omega)) dL_law_1085 ?_
  refine lv_topi (fun y13_ ey13_ => ?_)
  have qy13_ : y13_ = y2_ := by rw [ey13_, ey2_, show z12_ = z1_ from Int32.toInt_inj.mp (by omega)]
  refine lv_aload_n hx hb dL_law_1086 rfl (lv_at hl 3 rfl) ?_
  refine lv_iload_n hx hb dL_law_1087 rfl (lv_at hl 0 rfl) ?_
  refine lv_iconst (v := 2) hx hb dL_law_1088 (by decide) ?_
  refine lv_iadd hx hb dL_law_1089 ?_
  refine lv_topi (fun z14_ ez14_ => ?_)
  have tz14_ : z14_.toInt = i.toInt + 2 := ti_add ez14_ rfl (by decide) (by omega) (by omega)
  refine va_sld hx hb hX hbl hbA hS (sx_in tz14_ hi.1 (by decide) (by omega)) dL_law_1090 ?_
  refine lv_topi (fun y15_ ey15_ => ?_)
  have qy15_ : y15_ = y4_ := by rw [ey15_, ey4_, show z14_ = z3_ from Int32.toInt_inj.mp (by omega)]
  refine lv_aload_n hx hb dL_law_1091 rfl (lv_at hl 3 rfl) ?_
  refine lv_iload_n hx hb dL_law_1092 rfl (lv_at hl 0 rfl) ?_
  refine lv_iconst (v := 3) hx hb dL_law_1093 (by decide) ?_
  refine lv_iadd hx hb dL_law_1094 ?_
  refine lv_topi (fun z16_ ez16_ => ?_)
  have tz16_ : z16_.toInt = i.toInt + 3 := ti_add ez16_ rfl (by decide) (by omega) (by omega)
  refine va_sld hx hb hX hbl hbA hS (sx_in tz16_ hi.1 (by decide) (by omega)) dL_law_1095 ?_
  refine lv_topi (fun y17_ ey17_ => ?_)
  have qy17_ : y17_ = y6_ := by rw [ey17_, ey6_, show z16_ = z5_ from Int32.toInt_inj.mp (by omega)]
  refine lv_aload_n hx hb dL_law_1096 rfl (lv_at hl 3 rfl) ?_
  refine lv_iload_n hx hb dL_law_1097 rfl (lv_at hl 0 rfl) ?_
  refine lv_iconst (v := 4) hx hb dL_law_1098 (by decide) ?_
  refine lv_iadd hx hb dL_law_1099 ?_
  refine lv_topi (fun z18_ ez18_ => ?_)
  have tz18_ : z18_.toInt = i.toInt + 4 := ti_add ez18_ rfl (by decide) (by omega) (by omega)
  refine va_sld hx hb hX hbl hbA hS (sx_in tz18_ hi.1 (by decide) (by omega)) dL_law_1100 ?_
  refine lv_topi (fun y19_ ey19_ => ?_)
  have qy19_ : y19_ = y8_ := by rw [ey19_, ey8_, show z18_ = z7_ from Int32.toInt_inj.mp (by omega)]
  refine zp_l (wc := (mW h ad cl μ)) (wr := (xW κ (xX κ φ ψ) τ11_)) (va_runV (As := [.int y13_, .int y15_, .int y17_, .int y19_]) (rest := []) ⟨hx, hb, hml, hown, hts⟩ (n_led l dC dI h ad cl H.size μ y13_ y15_ y17_ y19_ hM hRI.1 hRI.2.2.1) (cwV 4 hts gl_n_led rfl rfl rfl dd_n_led ⟨Nat.le_of_ble_eq_true rfl, Nat.le_of_ble_eq_true rfl⟩) (preV (lP hP) hKm (lD hD) hE.x (ci := 12) (q0 := 0) rfl rfl) rfl rfl hl.1 rfl (lv_room (Nat.le_of_ble_eq_true rfl)) dL_law_1101 ⟨(show cells + 0 ≤ 600000 by omega), (show slots + 0 ≤ 7302250 by omega)⟩) hP hD hS hA (fun j20_ μ21_ H locs hq hP hD hS => ?_)
  obtain ⟨hμ21_, xμ21_⟩ := hq
  have iμ21_ : RI μ21_ := RI_scr hM hRI xμ21_
  refine W.widen (k := cells) (n := slots) (Nat.le_refl _) (Nat.le_refl _) ?_
  refine lv_pop2_2 hx hb dL_law_1104 rfl ?_
  refine lv_goto (tgt := 1273) hx hb dL_law_1105 (by decide) ?_
  have hG9_ : LG dC dI A s κ φ ψ τ11_ h ad cl μ21_ H locs := ⟨hP, hD, hS, hKm, hKx, hk, hτ11_, hF, hμ21_, iμ21_⟩
  exact kk _ _ _ _ _ _ _ cells slots hG9_ rfl (by omega) (by omega)
set_option maxHeartbeats 4000000 in
set_option maxRecDepth 100000 in
theorem law_26 {p : Program} {l : Launch} {e : Env} {s : State} {m : MethodId} {below : List Frame} {meth : Method} {c : Code} {b L : Nat} {xs : Nat → Int32} (C0 : lw_At p s m meth c b L xs) (hE : Ey s) {A : Nat → Prop} (hAe : A = fun q : Nat => s.heap.size ≤ q) {dC : Nat → ClassId} {dI : Nat → Nat → Nat} {adK adV : Nat → Nat} (hZ : Zs adK adV A s s.heap) (hR : Rs adK s) {κ : CE} {φ ψ σ : MS} {h : Nat} {ad : Nat → Nat} {cl : Nat → ClassId} {μ : MS} {H : Heap} {locs : List Loc} {cells slots : Nat} {i : Int32} {ls : Array Slot} (hi : 0 ≤ i.toInt ∧ i.toInt + 5 < (L : Int) ∧ L ≤ 3072) (hc : cells + 1011 ≤ 600000 ∧ slots + 43534 ≤ 7302250) (G : LG dC dI A s κ φ ψ σ h ad cl μ H locs) (hl : lv_has ls 4 [(3, .int i), (1, .ref (kA κ 0)), (2, .ref h), (0, .ref b)]) {Q : State → Prop}
    (kk : ∀ (κ' : CE) (φ' ψ' σ' μ' : MS) (H' : Heap) (locs' : List Loc) (c' t' : Nat), LG dC dI A s κ' φ' ψ' σ' h ad cl μ' H' locs' → kA κ' 0 = kA κ 0 → c' + 3 * bc κ ≤ cells + 1008 + 3 * bc κ' → t' + 32489 * bc κ ≤ slots + 11045 + 32489 * bc κ' → W p l e room_1 s m #[Value.ref b] below meth c H' locs' c' t' Q (F0 m 1273 ls [])) : W p l e room_1 s m #[Value.ref b] below meth c H locs cells slots Q (F0 m 1108 ls []) := by
  obtain ⟨hx, hb, hr, hml, hown, hts, hX, hbl, hlocks, hgv⟩ := id C0
  have hA : ∀ q : Nat, s.heap.size ≤ q → A q := fun q h => by rw [hAe]; exact h
  have hbA : ¬ A b := by rw [hAe]; exact Nat.not_le.mpr hbl
  obtain ⟨hP, hD, hS, hKm, hKx, hk, hI, hF, hM, hRI⟩ := G
  have hKc : va_K (dC, dI) vwCl (cT κ) s := hKx.sub [0, 1, 2, 3, 4, 5, 6, 7, 8, 9, 10, 11, 12, 13, 14, 15, 16, 17, 18, 19, 20] rfl
  refine lv_aload_n hx hb dL_law_1108 rfl (lv_at hl 1 rfl) ?_
  refine lv_aload_n hx hb dL_law_1109 rfl (lv_at hl 3 rfl) ?_
  refine lv_iload_n hx hb dL_law_1110 rfl (lv_at hl 0 rfl) ?_
  refine lv_iconst (v := 1) hx hb dL_law_1111 (by decide) ?_
  refine lv_iadd hx hb dL_law_1112 ?_
  refine lv_topi (fun z1_ ez1_ => ?_)
  have tz1_ : z1_.toInt = i.toInt + 1 := ti_add ez1_ rfl (by decide) (by omega) (by omega)
  refine va_sld hx hb hX hbl hbA hS (sx_in tz1_ hi.1 (by decide) (by omega)) dL_law_1113 ?_
  refine lv_topi (fun y2_ ey2_ => ?_)
  have hP := lxP hP
  have hD := lxD hD
  refine zc_i (wr := (mW h ad cl μ)) (wc := cW (ky κ (xX κ φ ψ)) σ) (va_runV (As := [.int y2_]) (rest := []) ⟨hx, hb, hml, hown, hts⟩ (k_purse l dC dI (ky κ (xX κ φ ψ)) H.size σ y2_ hk hI ) (cwV 1 hts gl_k_purse rfl rfl rfl dd_k_purse ⟨Nat.le_of_ble_eq_true rfl, Nat.le_of_ble_eq_true rfl⟩) (preVy (rP hP) hKc (rD hD) hE (ci := 11) (q0 := 0) rfl rfl) rfl rfl hl.1 rfl (lv_room (Nat.le_of_ble_eq_true rfl)) dL_law_1114 ⟨(show cells + 0 ≤ 600000 by omega), (show slots + 0 ≤ 7302250 by omega)⟩) hP hD hS hA (fun r4_ τ5_ H locs hq _ hP hD hS => ?_)
  obtain ⟨hτ5_, qτ5_⟩ := hq
  have hP := xlP hP
  have hD := xlD hD
  refine W.widen (k := cells) (n := slots) (Nat.le_refl _) (Nat.le_refl _) ?_
  refine lv_aload_n hx hb dL_law_1117 rfl (lv_at hl 2 rfl) ?_
  refine lv_aload_n hx hb dL_law_1118 rfl (lv_at hl 3 rfl) ?_
  refine lv_iload_n hx hb dL_law_1119 rfl (lv_at hl 0 rfl) ?_
  refine lv_iconst (v := 1) hx hb dL_law_1120 (by decide) ?_
  refine lv_iadd hx hb dL_law_1121 ?_
  refine lv_topi (fun z6_ ez6_ => ?_)
  have tz6_ : z6_.toInt = i.toInt + 1 := ti_add ez6_ rfl (by decide) (by omega) (by omega)
  refine va_sld hx hb hX hbl hbA hS (sx_in tz6_ hi.1 (by decide) (by omega)) dL_law_1122 ?_
  refine lv_topi (fun y7_ ey7_ => ?_)
  have qy7_ : y7_ = y2_ := by rw [ey7_, ey2_, show z6_ = z1_ from Int32.toInt_inj.mp (by omega)]
  refine zp_i (wc := (mW h ad cl μ)) (wr := (xW κ (xX κ φ ψ) τ5_)) (va_runV (As := [.int y7_]) (rest := [.int r4_]) ⟨hx, hb, hml, hown, hts⟩ (n_purse l dC dI h ad cl H.size μ y7_ hM) (cwV 1 hts gl_n_purse rfl rfl rfl dd_n_purse ⟨Nat.le_of_ble_eq_true rfl, Nat.le_of_ble_eq_true rfl⟩) (preV (lP hP) hKm (lD hD) hE.x (ci := 12) (q0 := 0) rfl rfl) rfl rfl hl.1 rfl (lv_room (Nat.le_of_ble_eq_true rfl)) dL_law_1123 ⟨(show cells + 0 ≤ 600000 by omega), (show slots + 0 ≤ 7302250 by omega)⟩) hP hD hS hA (fun r8_ μ9_ H locs hq hP hD hS => ?_)
  obtain ⟨hμ9_, xμ9_, f10_⟩ := hq
  have iμ9_ : RI μ9_ := RI_purse hM hRI xμ9_
  refine W.widen (k := cells) (n := slots) (Nat.le_refl _) (Nat.le_refl _) ?_
  have pe_ : r4_ = r8_ := ps_eq qτ5_ (by rw [← qy7_]; exact f10_)
  refine lv_icmp_eq (tgt := 1273) hx hb dL_law_1126 rfl (fun _ => ?_) (fun cc => absurd pe_ cc)
  have hG9_ : LG dC dI A s κ φ ψ τ5_ h ad cl μ9_ H locs := ⟨hP, hD, hS, hKm, hKx, hk, hτ5_, hF, hμ9_, iμ9_⟩
  exact kk _ _ _ _ _ _ _ cells slots hG9_ rfl (by omega) (by omega)
set_option maxHeartbeats 4000000 in
set_option maxRecDepth 100000 in
theorem law_27 {p : Program} {l : Launch} {e : Env} {s : State} {m : MethodId} {below : List Frame} {meth : Method} {c : Code} {b L : Nat} {xs : Nat → Int32} (C0 : lw_At p s m meth c b L xs) (hE : Ey s) {A : Nat → Prop} (hAe : A = fun q : Nat => s.heap.size ≤ q) {dC : Nat → ClassId} {dI : Nat → Nat → Nat} {adK adV : Nat → Nat} (hZ : Zs adK adV A s s.heap) (hR : Rs adK s) {κ : CE} {φ ψ σ : MS} {h : Nat} {ad : Nat → Nat} {cl : Nat → ClassId} {μ : MS} {H : Heap} {locs : List Loc} {cells slots : Nat} {i : Int32} {ls : Array Slot} (hi : 0 ≤ i.toInt ∧ i.toInt + 5 < (L : Int) ∧ L ≤ 3072) (hc : cells + 1011 ≤ 600000 ∧ slots + 43534 ≤ 7302250) (G : LG dC dI A s κ φ ψ σ h ad cl μ H locs) (hl : lv_has ls 4 [(3, .int i), (1, .ref (kA κ 0)), (2, .ref h), (0, .ref b)]) {Q : State → Prop}
    (kk : ∀ (κ' : CE) (φ' ψ' σ' μ' : MS) (H' : Heap) (locs' : List Loc) (c' t' : Nat), LG dC dI A s κ' φ' ψ' σ' h ad cl μ' H' locs' → kA κ' 0 = kA κ 0 → c' + 3 * bc κ ≤ cells + 1008 + 3 * bc κ' → t' + 32489 * bc κ ≤ slots + 11045 + 32489 * bc κ' → W p l e room_1 s m #[Value.ref b] below meth c H' locs' c' t' Q (F0 m 1273 ls [])) : W p l e room_1 s m #[Value.ref b] below meth c H locs cells slots Q (F0 m 1131 ls []) := by
  obtain ⟨hx, hb, hr, hml, hown, hts, hX, hbl, hlocks, hgv⟩ := id C0
  have hA : ∀ q : Nat, s.heap.size ≤ q → A q := fun q h => by rw [hAe]; exact h
  have hbA : ¬ A b := by rw [hAe]; exact Nat.not_le.mpr hbl
  obtain ⟨hP, hD, hS, hKm, hKx, hk, hI, hF, hM, hRI⟩ := G
  have hKc : va_K (dC, dI) vwCl (cT κ) s := hKx.sub [0, 1, 2, 3, 4, 5, 6, 7, 8, 9, 10, 11, 12, 13, 14, 15, 16, 17, 18, 19, 20] rfl
  refine lv_aload_n hx hb dL_law_1131 rfl (lv_at hl 1 rfl) ?_
  refine lv_aload_n hx hb dL_law_1132 rfl (lv_at hl 3 rfl) ?_
  refine lv_iload_n hx hb dL_law_1133 rfl (lv_at hl 0 rfl) ?_
  refine lv_iconst (v := 1) hx hb dL_law_1134 (by decide) ?_
  refine lv_iadd hx hb dL_law_1135 ?_
  refine lv_topi (fun z1_ ez1_ => ?_)
  have tz1_ : z1_.toInt = i.toInt + 1 := ti_add ez1_ rfl (by decide) (by omega) (by omega)
  refine va_sld hx hb hX hbl hbA hS (sx_in tz1_ hi.1 (by decide) (by omega)) dL_law_1136 ?_
  refine lv_topi (fun y2_ ey2_ => ?_)
  refine lv_aload_n hx hb dL_law_1137 rfl (lv_at hl 3 rfl) ?_
  refine lv_iload_n hx hb dL_law_1138 rfl (lv_at hl 0 rfl) ?_
  refine lv_iconst (v := 2) hx hb dL_law_1139 (by decide) ?_
  refine lv_iadd hx hb dL_law_1140 ?_
  refine lv_topi (fun z3_ ez3_ => ?_)
  have tz3_ : z3_.toInt = i.toInt + 2 := ti_add ez3_ rfl (by decide) (by omega) (by omega)
  refine va_sld hx hb hX hbl hbA hS (sx_in tz3_ hi.1 (by decide) (by omega)) dL_law_1141 ?_
  refine lv_topi (fun y4_ ey4_ => ?_)
  refine lv_aload_n hx hb dL_law_1142 rfl (lv_at hl 3 rfl) ?_
  refine lv_iload_n hx hb dL_law_1143 rfl (lv_at hl 0 rfl) ?_
  refine lv_iconst (v := 3) hx hb dL_law_1144 (by decide) ?_
  refine lv_iadd hx hb dL_law_1145 ?_
  refine lv_topi (fun z5_ ez5_ => ?_)
  have tz5_ : z5_.toInt = i.toInt + 3 := ti_add ez5_ rfl (by decide) (by omega) (by omega)
  refine va_sld hx hb hX hbl hbA hS (sx_in tz5_ hi.1 (by decide) (by omega)) dL_law_1146 ?_
  refine lv_topi (fun y6_ ey6_ => ?_)
  have hP := lxP hP
  have hD := lxD hD
  refine zc_i (wr := (mW h ad cl μ)) (wc := cW (ky κ (xX κ φ ψ)) σ) (va_runV (As := [.int y2_, .int y4_, .int y6_]) (rest := []) ⟨hx, hb, hml, hown, hts⟩ (k_day l dC dI (ky κ (xX κ φ ψ)) H.size σ y2_ y4_ y6_ hk hI ) (cwV 3 hts gl_k_day rfl rfl rfl dd_k_day ⟨Nat.le_of_ble_eq_true rfl, Nat.le_of_ble_eq_true rfl⟩) (preVy (rP hP) hKc (rD hD) hE (ci := 11) (q0 := 0) rfl rfl) rfl rfl hl.1 rfl (lv_room (Nat.le_of_ble_eq_true rfl)) dL_law_1147 ⟨(show cells + 0 ≤ 600000 by omega), (show slots + 0 ≤ 7302250 by omega)⟩) hP hD hS hA (fun r8_ τ9_ H locs hq _ hP hD hS => ?_)
  obtain ⟨hτ9_, qτ9_⟩ := hq
  have hP := xlP hP
  have hD := xlD hD
  refine W.widen (k := cells) (n := slots) (Nat.le_refl _) (Nat.le_refl _) ?_
  refine lv_pop hx hb dL_law_1150 rfl ?_
  refine lv_aload_n hx hb dL_law_1151 rfl (lv_at hl 2 rfl) ?_
  refine lv_aload_n hx hb dL_law_1152 rfl (lv_at hl 3 rfl) ?_
  refine lv_iload_n hx hb dL_law_1153 rfl (lv_at hl 0 rfl) ?_
  refine lv_iconst (v := 1) hx hb dL_law_1154 (by decide) ?_
  refine lv_iadd hx hb dL_law_1155 ?_
  refine lv_topi (fun z10_ ez10_ => ?_)
  have tz10_ : z10_.toInt = i.toInt + 1 := ti_add ez10_ rfl (by decide) (by omega) (by omega)
  refine va_sld hx hb hX hbl hbA hS (sx_in tz10_ hi.1 (by decide) (by omega)) dL_law_1156 ?_
  refine lv_topi (fun y11_ ey11_ => ?_)
  have qy11_ : y11_ = y2_ := by rw [ey11_, ey2_, show z10_ = z1_ from Int32.toInt_inj.mp (by omega)]
  refine lv_aload_n hx hb dL_law_1157 rfl (lv_at hl 3 rfl) ?_
  refine lv_iload_n hx hb dL_law_1158 rfl (lv_at hl 0 rfl) ?_
  refine lv_iconst (v := 2) hx hb dL_law_1159 (by decide) ?_
  refine lv_iadd hx hb dL_law_1160 ?_
  refine lv_topi (fun z12_ ez12_ => ?_)
  have tz12_ : z12_.toInt = i.toInt + 2 := ti_add ez12_ rfl (by decide) (by omega) (by omega)
  refine va_sld hx hb hX hbl hbA hS (sx_in tz12_ hi.1 (by decide) (by omega)) dL_law_1161 ?_
  refine lv_topi (fun y13_ ey13_ => ?_)
  have qy13_ : y13_ = y4_ := by rw [ey13_, ey4_, show z12_ = z3_ from Int32.toInt_inj.mp (by omega)]
  refine lv_aload_n hx hb dL_law_1162 rfl (lv_at hl 3 rfl) ?_
  refine lv_iload_n hx hb dL_law_1163 rfl (lv_at hl 0 rfl) ?_
  refine lv_iconst (v := 3) hx hb dL_law_1164 (by decide) ?_
  refine lv_iadd hx hb dL_law_1165 ?_
  refine lv_topi (fun z14_ ez14_ => ?_)
  have tz14_ : z14_.toInt = i.toInt + 3 := ti_add ez14_ rfl (by decide) (by omega) (by omega)
  refine va_sld hx hb hX hbl hbA hS (sx_in tz14_ hi.1 (by decide) (by omega)) dL_law_1166 ?_
  refine lv_topi (fun y15_ ey15_ => ?_)
  have qy15_ : y15_ = y6_ := by rw [ey15_, ey6_, show z14_ = z5_ from Int32.toInt_inj.mp (by omega)]
  refine zp_i (wc := (mW h ad cl μ)) (wr := (xW κ (xX κ φ ψ) τ9_)) (va_runV (As := [.int y11_, .int y13_, .int y15_]) (rest := []) ⟨hx, hb, hml, hown, hts⟩ (n_day l dC dI h ad cl H.size μ y11_ y13_ y15_ hM hRI) (cwV 3 hts gl_n_day rfl rfl rfl dd_n_day ⟨Nat.le_of_ble_eq_true rfl, Nat.le_of_ble_eq_true rfl⟩) (preV (lP hP) hKm (lD hD) hE.x (ci := 12) (q0 := 0) rfl rfl) rfl rfl hl.1 rfl (lv_room (Nat.le_of_ble_eq_true rfl)) dL_law_1167 ⟨(show cells + 0 ≤ 600000 by omega), (show slots + 0 ≤ 7302250 by omega)⟩) hP hD hS hA (fun r16_ μ17_ H locs hq hP hD hS => ?_)
  obtain ⟨hμ17_, xμ17_⟩ := hq
  have iμ17_ : RI μ17_ := RI_day hM hRI xμ17_
  refine W.widen (k := cells) (n := slots) (Nat.le_refl _) (Nat.le_refl _) ?_
  refine lv_pop hx hb dL_law_1170 rfl ?_
  refine lv_goto (tgt := 1273) hx hb dL_law_1171 (by decide) ?_
  have hG9_ : LG dC dI A s κ φ ψ τ9_ h ad cl μ17_ H locs := ⟨hP, hD, hS, hKm, hKx, hk, hτ9_, hF, hμ17_, iμ17_⟩
  exact kk _ _ _ _ _ _ _ cells slots hG9_ rfl (by omega) (by omega)
set_option maxHeartbeats 4000000 in
set_option maxRecDepth 100000 in
theorem law_28 {p : Program} {l : Launch} {e : Env} {s : State} {m : MethodId} {below : List Frame} {meth : Method} {c : Code} {b L : Nat} {xs : Nat → Int32} (C0 : lw_At p s m meth c b L xs) (hE : Ey s) {A : Nat → Prop} (hAe : A = fun q : Nat => s.heap.size ≤ q) {dC : Nat → ClassId} {dI : Nat → Nat → Nat} {adK adV : Nat → Nat} (hZ : Zs adK adV A s s.heap) (hR : Rs adK s) {κ : CE} {φ ψ σ : MS} {h : Nat} {ad : Nat → Nat} {cl : Nat → ClassId} {μ : MS} {H : Heap} {locs : List Loc} {cells slots : Nat} {i : Int32} {ls : Array Slot} (hi : 0 ≤ i.toInt ∧ i.toInt + 5 < (L : Int) ∧ L ≤ 3072) (hc : cells + 1011 ≤ 600000 ∧ slots + 43534 ≤ 7302250) (G : LG dC dI A s κ φ ψ σ h ad cl μ H locs) (hl : lv_has ls 4 [(3, .int i), (1, .ref (kA κ 0)), (2, .ref h), (0, .ref b)]) {Q : State → Prop}
    (kk : ∀ (κ' : CE) (φ' ψ' σ' μ' : MS) (H' : Heap) (locs' : List Loc) (c' t' : Nat), LG dC dI A s κ' φ' ψ' σ' h ad cl μ' H' locs' → kA κ' 0 = kA κ 0 → c' + 3 * bc κ ≤ cells + 1008 + 3 * bc κ' → t' + 32489 * bc κ ≤ slots + 11045 + 32489 * bc κ' → W p l e room_1 s m #[Value.ref b] below meth c H' locs' c' t' Q (F0 m 1273 ls [])) : W p l e room_1 s m #[Value.ref b] below meth c H locs cells slots Q (F0 m 1174 ls []) := by
  obtain ⟨hx, hb, hr, hml, hown, hts, hX, hbl, hlocks, hgv⟩ := id C0
  have hA : ∀ q : Nat, s.heap.size ≤ q → A q := fun q h => by rw [hAe]; exact h
  have hbA : ¬ A b := by rw [hAe]; exact Nat.not_le.mpr hbl
  obtain ⟨hP, hD, hS, hKm, hKx, hk, hI, hF, hM, hRI⟩ := G
  have hKc : va_K (dC, dI) vwCl (cT κ) s := hKx.sub [0, 1, 2, 3, 4, 5, 6, 7, 8, 9, 10, 11, 12, 13, 14, 15, 16, 17, 18, 19, 20] rfl
  refine lv_aload_n hx hb dL_law_1174 rfl (lv_at hl 1 rfl) ?_
  refine lv_aload_n hx hb dL_law_1175 rfl (lv_at hl 3 rfl) ?_
  refine lv_iload_n hx hb dL_law_1176 rfl (lv_at hl 0 rfl) ?_
  refine lv_iconst (v := 1) hx hb dL_law_1177 (by decide) ?_
  refine lv_iadd hx hb dL_law_1178 ?_
  refine lv_topi (fun z1_ ez1_ => ?_)
  have tz1_ : z1_.toInt = i.toInt + 1 := ti_add ez1_ rfl (by decide) (by omega) (by omega)
  refine va_sld hx hb hX hbl hbA hS (sx_in tz1_ hi.1 (by decide) (by omega)) dL_law_1179 ?_
  refine lv_topi (fun y2_ ey2_ => ?_)
  refine lv_aload_n hx hb dL_law_1180 rfl (lv_at hl 3 rfl) ?_
  refine lv_iload_n hx hb dL_law_1181 rfl (lv_at hl 0 rfl) ?_
  refine lv_iconst (v := 2) hx hb dL_law_1182 (by decide) ?_
  refine lv_iadd hx hb dL_law_1183 ?_
  refine lv_topi (fun z3_ ez3_ => ?_)
  have tz3_ : z3_.toInt = i.toInt + 2 := ti_add ez3_ rfl (by decide) (by omega) (by omega)
  refine va_sld hx hb hX hbl hbA hS (sx_in tz3_ hi.1 (by decide) (by omega)) dL_law_1184 ?_
  refine lv_topi (fun y4_ ey4_ => ?_)
  rcases he5_ : kP κ with _ | a0_
  · by_cases hn_ : 0 ≤ y2_.toInt ∧ y2_.toInt < (pI κ 2).toInt ∧ 0 ≤ y4_.toInt ∧ y4_.toInt ≤ 400
    · refine zc_i (wr := (mW h ad cl μ)) (wc := (xW κ (xX κ φ ψ) σ)) (va_runV (As := [.int y2_, .int y4_]) (rest := []) ⟨hx, hb, hml, hown, hts⟩ (t_plan l dC dI κ H.size φ ψ σ y2_ y4_ hk hI hF he5_ hn_) (cwV 2 hts gl_t_plan rfl rfl rfl dd_t_plan ⟨Nat.le_of_ble_eq_true rfl, Nat.le_of_ble_eq_true rfl⟩) (preVy (rP hP) hKx (rD hD) hE (ci := 11) (q0 := 0) rfl rfl) rfl rfl hl.1 rfl (lv_room (Nat.le_of_ble_eq_true rfl)) dL_law_1185 ⟨(show cells + 3 ≤ 600000 by omega), (show slots + 32489 ≤ 7302250 by omega)⟩) hP hD hS hA (fun r6_ u7_ H locs hq hKn_ hP hD hS => ?_)
      obtain ⟨κ8_, φ9_, ψ10_, τ11_⟩ := u7_
      obtain ⟨hkκ8_, hτ11_, hφ9_, haκ8_, qτ11_⟩ := hq
      have hKx : va_K (dC, dI) vwCl (tT κ8_) s := hKn_
      have bc0_ := bc_n he5_
      obtain ⟨a9_, ha9_⟩ := qτ11_.2
      have bc1_ : bc κ8_ = 1 := bc_s ha9_
      have hP : va_P (dC, dI) vwCl ((mW h ad cl μ) ++ (xW κ8_ (xX κ8_ φ9_ ψ10_) τ11_)) H := hP
      have hD : va_D A ((mW h ad cl μ) ++ (xW κ8_ (xX κ8_ φ9_ ψ10_) τ11_)) := hD
      refine W.widen (k := (cells + 3)) (n := (slots + 32489)) (Nat.le_refl _) (Nat.le_refl _) ?_
      refine lv_pop hx hb dL_law_1188 rfl ?_
      refine lv_aload_n hx hb dL_law_1189 rfl (lv_at hl 2 rfl) ?_
      refine lv_aload_n hx hb dL_law_1190 rfl (lv_at hl 3 rfl) ?_
      refine lv_iload_n hx hb dL_law_1191 rfl (lv_at hl 0 rfl) ?_
      refine lv_iconst (v := 1) hx hb dL_law_1192 (by decide) ?_
      refine lv_iadd hx hb dL_law_1193 ?_
      refine lv_topi (fun z12_ ez12_ => ?_)
      have tz12_ : z12_.toInt = i.toInt + 1 := ti_add ez12_ rfl (by decide) (by omega) (by omega)
      refine va_sld hx hb hX hbl hbA hS (sx_in tz12_ hi.1 (by decide) (by omega)) dL_law_1194 ?_
      refine lv_topi (fun y13_ ey13_ => ?_)
      have qy13_ : y13_ = y2_ := by rw [ey13_, ey2_, show z12_ = z1_ from Int32.toInt_inj.mp (by omega)]
      refine lv_aload_n hx hb dL_law_1195 rfl (lv_at hl 3 rfl) ?_
      refine lv_iload_n hx hb dL_law_1196 rfl (lv_at hl 0 rfl) ?_
      refine lv_iconst (v := 2) hx hb dL_law_1197 (by decide) ?_
      refine lv_iadd hx hb dL_law_1198 ?_
      refine lv_topi (fun z14_ ez14_ => ?_)
      have tz14_ : z14_.toInt = i.toInt + 2 := ti_add ez14_ rfl (by decide) (by omega) (by omega)
      refine va_sld hx hb hX hbl hbA hS (sx_in tz14_ hi.1 (by decide) (by omega)) dL_law_1199 ?_
      refine lv_topi (fun y15_ ey15_ => ?_)
      have qy15_ : y15_ = y4_ := by rw [ey15_, ey4_, show z14_ = z3_ from Int32.toInt_inj.mp (by omega)]
      refine zp_i (wc := (mW h ad cl μ)) (wr := (xW κ8_ (xX κ8_ φ9_ ψ10_) τ11_)) (va_runV (As := [.int y13_, .int y15_]) (rest := []) ⟨hx, hb, hml, hown, hts⟩ (n_plan l dC dI h ad cl H.size μ y13_ y15_ hM hRI) (cwV 2 hts gl_n_plan rfl rfl rfl dd_n_plan ⟨Nat.le_of_ble_eq_true rfl, Nat.le_of_ble_eq_true rfl⟩) (preV (lP hP) hKm (lD hD) hE.x (ci := 12) (q0 := 0) rfl rfl) rfl rfl hl.1 rfl (lv_room (Nat.le_of_ble_eq_true rfl)) dL_law_1200 ⟨(show (cells + 3) + 0 ≤ 600000 by omega), (show (slots + 32489) + 0 ≤ 7302250 by omega)⟩) hP hD hS hA (fun r16_ μ17_ H locs hq hP hD hS => ?_)
      obtain ⟨hμ17_, xμ17_⟩ := hq
      have iμ17_ : RI μ17_ := RI_scr hM hRI xμ17_
      refine W.widen (k := (cells + 3)) (n := (slots + 32489)) (Nat.le_refl _) (Nat.le_refl _) ?_
      refine lv_pop hx hb dL_law_1203 rfl ?_
      refine lv_goto (tgt := 1273) hx hb dL_law_1204 (by decide) ?_
      have hG9_ : LG dC dI A s κ8_ φ9_ ψ10_ τ11_ h ad cl μ17_ H locs := ⟨hP, hD, hS, hKm, hKx, hkκ8_, hτ11_, hφ9_, hμ17_, iμ17_⟩
      exact kk _ _ _ _ _ _ _ (cells + 3) (slots + 32489) hG9_ haκ8_ (by omega) (by omega)
    · refine zc_i (wr := (mW h ad cl μ)) (wc := (xW κ (xX κ φ ψ) σ)) (va_runV (As := [.int y2_, .int y4_]) (rest := []) ⟨hx, hb, hml, hown, hts⟩ (v_planN l dC dI κ H.size φ ψ σ y2_ y4_ hk hI hF hn_) (cwV 2 hts gl_v_planN rfl rfl rfl dd_v_planN ⟨Nat.le_of_ble_eq_true rfl, Nat.le_of_ble_eq_true rfl⟩) (preVy (rP hP) hKx (rD hD) hE (ci := 11) (q0 := 0) rfl rfl) rfl rfl hl.1 rfl (lv_room (Nat.le_of_ble_eq_true rfl)) dL_law_1185 ⟨(show cells + 0 ≤ 600000 by omega), (show slots + 0 ≤ 7302250 by omega)⟩) hP hD hS hA (fun r19_ u20_ H locs hq hKn_ hP hD hS => ?_)
      obtain ⟨φ22_, ψ23_, τ24_⟩ := u20_
      obtain ⟨hτ24_, hφ22_, qτ24_⟩ := hq
      have hP : va_P (dC, dI) vwCl ((mW h ad cl μ) ++ (xW κ (xX κ φ22_ ψ23_) τ24_)) H := hP
      have hD : va_D A ((mW h ad cl μ) ++ (xW κ (xX κ φ22_ ψ23_) τ24_)) := hD
      refine W.widen (k := cells) (n := slots) (Nat.le_refl _) (Nat.le_refl _) ?_
      refine lv_pop hx hb dL_law_1188 rfl ?_
      refine lv_aload_n hx hb dL_law_1189 rfl (lv_at hl 2 rfl) ?_
      refine lv_aload_n hx hb dL_law_1190 rfl (lv_at hl 3 rfl) ?_
      refine lv_iload_n hx hb dL_law_1191 rfl (lv_at hl 0 rfl) ?_
      refine lv_iconst (v := 1) hx hb dL_law_1192 (by decide) ?_
      refine lv_iadd hx hb dL_law_1193 ?_
      refine lv_topi (fun z25_ ez25_ => ?_)
      have tz25_ : z25_.toInt = i.toInt + 1 := ti_add ez25_ rfl (by decide) (by omega) (by omega)
      refine va_sld hx hb hX hbl hbA hS (sx_in tz25_ hi.1 (by decide) (by omega)) dL_law_1194 ?_
      refine lv_topi (fun y26_ ey26_ => ?_)
      have qy26_ : y26_ = y2_ := by rw [ey26_, ey2_, show z25_ = z1_ from Int32.toInt_inj.mp (by omega)]
      refine lv_aload_n hx hb dL_law_1195 rfl (lv_at hl 3 rfl) ?_
      refine lv_iload_n hx hb dL_law_1196 rfl (lv_at hl 0 rfl) ?_
      refine lv_iconst (v := 2) hx hb dL_law_1197 (by decide) ?_
      refine lv_iadd hx hb dL_law_1198 ?_
      refine lv_topi (fun z27_ ez27_ => ?_)
      have tz27_ : z27_.toInt = i.toInt + 2 := ti_add ez27_ rfl (by decide) (by omega) (by omega)
      refine va_sld hx hb hX hbl hbA hS (sx_in tz27_ hi.1 (by decide) (by omega)) dL_law_1199 ?_
      refine lv_topi (fun y28_ ey28_ => ?_)
      have qy28_ : y28_ = y4_ := by rw [ey28_, ey4_, show z27_ = z3_ from Int32.toInt_inj.mp (by omega)]
      refine zp_i (wc := (mW h ad cl μ)) (wr := (xW κ (xX κ φ22_ ψ23_) τ24_)) (va_runV (As := [.int y26_, .int y28_]) (rest := []) ⟨hx, hb, hml, hown, hts⟩ (n_plan l dC dI h ad cl H.size μ y26_ y28_ hM hRI) (cwV 2 hts gl_n_plan rfl rfl rfl dd_n_plan ⟨Nat.le_of_ble_eq_true rfl, Nat.le_of_ble_eq_true rfl⟩) (preV (lP hP) hKm (lD hD) hE.x (ci := 12) (q0 := 0) rfl rfl) rfl rfl hl.1 rfl (lv_room (Nat.le_of_ble_eq_true rfl)) dL_law_1200 ⟨(show cells + 0 ≤ 600000 by omega), (show slots + 0 ≤ 7302250 by omega)⟩) hP hD hS hA (fun r29_ μ30_ H locs hq hP hD hS => ?_)
      obtain ⟨hμ30_, xμ30_⟩ := hq
      have iμ30_ : RI μ30_ := RI_scr hM hRI xμ30_
      refine W.widen (k := cells) (n := slots) (Nat.le_refl _) (Nat.le_refl _) ?_
      refine lv_pop hx hb dL_law_1203 rfl ?_
      refine lv_goto (tgt := 1273) hx hb dL_law_1204 (by decide) ?_
      have hG9_ : LG dC dI A s κ φ22_ ψ23_ τ24_ h ad cl μ30_ H locs := ⟨hP, hD, hS, hKm, hKx, hk, hτ24_, hφ22_, hμ30_, iμ30_⟩
      exact kk _ _ _ _ _ _ _ cells slots hG9_ rfl (by omega) (by omega)
  · refine zc_i (wr := (mW h ad cl μ)) (wc := (xW κ (xX κ φ ψ) σ)) (va_runV (As := [.int y2_, .int y4_]) (rest := []) ⟨hx, hb, hml, hown, hts⟩ (v_plan l dC dI κ H.size φ ψ σ y2_ y4_ hk hI hF a0_ he5_) (cwV 2 hts gl_v_plan rfl rfl rfl dd_v_plan ⟨Nat.le_of_ble_eq_true rfl, Nat.le_of_ble_eq_true rfl⟩) (preVy (rP hP) hKx (rD hD) hE (ci := 11) (q0 := 0) rfl rfl) rfl rfl hl.1 rfl (lv_room (Nat.le_of_ble_eq_true rfl)) dL_law_1185 ⟨(show cells + 0 ≤ 600000 by omega), (show slots + 0 ≤ 7302250 by omega)⟩) hP hD hS hA (fun r32_ u33_ H locs hq hKn_ hP hD hS => ?_)
    obtain ⟨φ35_, ψ36_, τ37_⟩ := u33_
    obtain ⟨hτ37_, hφ35_, qτ37_⟩ := hq
    have hP : va_P (dC, dI) vwCl ((mW h ad cl μ) ++ (xW κ (xX κ φ35_ ψ36_) τ37_)) H := hP
    have hD : va_D A ((mW h ad cl μ) ++ (xW κ (xX κ φ35_ ψ36_) τ37_)) := hD
    refine W.widen (k := cells) (n := slots) (Nat.le_refl _) (Nat.le_refl _) ?_
    refine lv_pop hx hb dL_law_1188 rfl ?_
    refine lv_aload_n hx hb dL_law_1189 rfl (lv_at hl 2 rfl) ?_
    refine lv_aload_n hx hb dL_law_1190 rfl (lv_at hl 3 rfl) ?_
    refine lv_iload_n hx hb dL_law_1191 rfl (lv_at hl 0 rfl) ?_
    refine lv_iconst (v := 1) hx hb dL_law_1192 (by decide) ?_
    refine lv_iadd hx hb dL_law_1193 ?_
    refine lv_topi (fun z38_ ez38_ => ?_)
    have tz38_ : z38_.toInt = i.toInt + 1 := ti_add ez38_ rfl (by decide) (by omega) (by omega)
    refine va_sld hx hb hX hbl hbA hS (sx_in tz38_ hi.1 (by decide) (by omega)) dL_law_1194 ?_
    refine lv_topi (fun y39_ ey39_ => ?_)
    have qy39_ : y39_ = y2_ := by rw [ey39_, ey2_, show z38_ = z1_ from Int32.toInt_inj.mp (by omega)]
    refine lv_aload_n hx hb dL_law_1195 rfl (lv_at hl 3 rfl) ?_
    refine lv_iload_n hx hb dL_law_1196 rfl (lv_at hl 0 rfl) ?_
    refine lv_iconst (v := 2) hx hb dL_law_1197 (by decide) ?_
    refine lv_iadd hx hb dL_law_1198 ?_
    refine lv_topi (fun z40_ ez40_ => ?_)
    have tz40_ : z40_.toInt = i.toInt + 2 := ti_add ez40_ rfl (by decide) (by omega) (by omega)
    refine va_sld hx hb hX hbl hbA hS (sx_in tz40_ hi.1 (by decide) (by omega)) dL_law_1199 ?_
    refine lv_topi (fun y41_ ey41_ => ?_)
    have qy41_ : y41_ = y4_ := by rw [ey41_, ey4_, show z40_ = z3_ from Int32.toInt_inj.mp (by omega)]
    refine zp_i (wc := (mW h ad cl μ)) (wr := (xW κ (xX κ φ35_ ψ36_) τ37_)) (va_runV (As := [.int y39_, .int y41_]) (rest := []) ⟨hx, hb, hml, hown, hts⟩ (n_plan l dC dI h ad cl H.size μ y39_ y41_ hM hRI) (cwV 2 hts gl_n_plan rfl rfl rfl dd_n_plan ⟨Nat.le_of_ble_eq_true rfl, Nat.le_of_ble_eq_true rfl⟩) (preV (lP hP) hKm (lD hD) hE.x (ci := 12) (q0 := 0) rfl rfl) rfl rfl hl.1 rfl (lv_room (Nat.le_of_ble_eq_true rfl)) dL_law_1200 ⟨(show cells + 0 ≤ 600000 by omega), (show slots + 0 ≤ 7302250 by omega)⟩) hP hD hS hA (fun r42_ μ43_ H locs hq hP hD hS => ?_)
    obtain ⟨hμ43_, xμ43_⟩ := hq
    have iμ43_ : RI μ43_ := RI_scr hM hRI xμ43_
    refine W.widen (k := cells) (n := slots) (Nat.le_refl _) (Nat.le_refl _) ?_
    refine lv_pop hx hb dL_law_1203 rfl ?_
    refine lv_goto (tgt := 1273) hx hb dL_law_1204 (by decide) ?_
    have hG9_ : LG dC dI A s κ φ35_ ψ36_ τ37_ h ad cl μ43_ H locs := ⟨hP, hD, hS, hKm, hKx, hk, hτ37_, hφ35_, hμ43_, iμ43_⟩
    exact kk _ _ _ _ _ _ _ cells slots hG9_ rfl (by omega) (by omega)
set_option maxHeartbeats 4000000 in
set_option maxRecDepth 100000 in
theorem law_29 {p : Program} {l : Launch} {e : Env} {s : State} {m : MethodId} {below : List Frame} {meth : Method} {c : Code} {b L : Nat} {xs : Nat → Int32} (C0 : lw_At p s m meth c b L xs) (hE : Ey s) {A : Nat → Prop} (hAe : A = fun q : Nat => s.heap.size ≤ q) {dC : Nat → ClassId} {dI : Nat → Nat → Nat} {adK adV : Nat → Nat} (hZ : Zs adK adV A s s.heap) (hR : Rs adK s) {κ : CE} {φ ψ σ : MS} {h : Nat} {ad : Nat → Nat} {cl : Nat → ClassId} {μ : MS} {H : Heap} {locs : List Loc} {cells slots : Nat} {i : Int32} {ls : Array Slot} (hi : 0 ≤ i.toInt ∧ i.toInt + 5 < (L : Int) ∧ L ≤ 3072) (hc : cells + 1011 ≤ 600000 ∧ slots + 43534 ≤ 7302250) (G : LG dC dI A s κ φ ψ σ h ad cl μ H locs) (hl : lv_has ls 4 [(3, .int i), (1, .ref (kA κ 0)), (2, .ref h), (0, .ref b)]) {Q : State → Prop}
    (kk : ∀ (κ' : CE) (φ' ψ' σ' μ' : MS) (H' : Heap) (locs' : List Loc) (c' t' : Nat), LG dC dI A s κ' φ' ψ' σ' h ad cl μ' H' locs' → kA κ' 0 = kA κ 0 → c' + 3 * bc κ ≤ cells + 1008 + 3 * bc κ' → t' + 32489 * bc κ ≤ slots + 11045 + 32489 * bc κ' → W p l e room_1 s m #[Value.ref b] below meth c H' locs' c' t' Q (F0 m 1273 ls [])) : W p l e room_1 s m #[Value.ref b] below meth c H locs cells slots Q (F0 m 1207 ls []) := by
  obtain ⟨hx, hb, hr, hml, hown, hts, hX, hbl, hlocks, hgv⟩ := id C0
  have hA : ∀ q : Nat, s.heap.size ≤ q → A q := fun q h => by rw [hAe]; exact h
  have hbA : ¬ A b := by rw [hAe]; exact Nat.not_le.mpr hbl
  obtain ⟨hP, hD, hS, hKm, hKx, hk, hI, hF, hM, hRI⟩ := G
  have hKc : va_K (dC, dI) vwCl (cT κ) s := hKx.sub [0, 1, 2, 3, 4, 5, 6, 7, 8, 9, 10, 11, 12, 13, 14, 15, 16, 17, 18, 19, 20] rfl
  refine lv_aload_n hx hb dL_law_1207 rfl (lv_at hl 1 rfl) ?_
  refine lv_aload_n hx hb dL_law_1208 rfl (lv_at hl 3 rfl) ?_
  refine lv_iload_n hx hb dL_law_1209 rfl (lv_at hl 0 rfl) ?_
  refine lv_iconst (v := 1) hx hb dL_law_1210 (by decide) ?_
  refine lv_iadd hx hb dL_law_1211 ?_
  refine lv_topi (fun z1_ ez1_ => ?_)
  have tz1_ : z1_.toInt = i.toInt + 1 := ti_add ez1_ rfl (by decide) (by omega) (by omega)
  refine va_sld hx hb hX hbl hbA hS (sx_in tz1_ hi.1 (by decide) (by omega)) dL_law_1212 ?_
  refine lv_topi (fun y2_ ey2_ => ?_)
  refine lv_aload_n hx hb dL_law_1213 rfl (lv_at hl 3 rfl) ?_
  refine lv_iload_n hx hb dL_law_1214 rfl (lv_at hl 0 rfl) ?_
  refine lv_iconst (v := 2) hx hb dL_law_1215 (by decide) ?_
  refine lv_iadd hx hb dL_law_1216 ?_
  refine lv_topi (fun z3_ ez3_ => ?_)
  have tz3_ : z3_.toInt = i.toInt + 2 := ti_add ez3_ rfl (by decide) (by omega) (by omega)
  refine va_sld hx hb hX hbl hbA hS (sx_in tz3_ hi.1 (by decide) (by omega)) dL_law_1217 ?_
  refine lv_topi (fun y4_ ey4_ => ?_)
  refine lv_aload_n hx hb dL_law_1218 rfl (lv_at hl 3 rfl) ?_
  refine lv_iload_n hx hb dL_law_1219 rfl (lv_at hl 0 rfl) ?_
  refine lv_iconst (v := 3) hx hb dL_law_1220 (by decide) ?_
  refine lv_iadd hx hb dL_law_1221 ?_
  refine lv_topi (fun z5_ ez5_ => ?_)
  have tz5_ : z5_.toInt = i.toInt + 3 := ti_add ez5_ rfl (by decide) (by omega) (by omega)
  refine va_sld hx hb hX hbl hbA hS (sx_in tz5_ hi.1 (by decide) (by omega)) dL_law_1222 ?_
  refine lv_topi (fun y6_ ey6_ => ?_)
  rcases he7_ : kP κ with _ | a0_
  · by_cases hn_ : 0 ≤ y2_.toInt ∧ y2_.toInt < (pI κ 2).toInt ∧ 0 ≤ y4_.toInt ∧ y4_.toInt ≤ 400
    · by_cases hs_ : 0 ≤ y6_.toInt ∧ y6_.toInt < (σ.1 12).toInt
      · refine zc_i (wr := (mW h ad cl μ)) (wc := (xW κ (xX κ φ ψ) σ)) (va_runV (As := [.int y2_, .int y4_, .int y6_]) (rest := []) ⟨hx, hb, hml, hown, hts⟩ (t_planned l dC dI κ H.size φ ψ σ y2_ y4_ y6_ hk hI hF he7_ hn_ hs_) (cwV 3 hts gl_t_planned rfl rfl rfl dd_t_planned ⟨Nat.le_of_ble_eq_true rfl, Nat.le_of_ble_eq_true rfl⟩) (preVy (rP hP) hKx (rD hD) hE (ci := 11) (q0 := 0) rfl rfl) rfl rfl hl.1 rfl (lv_room (Nat.le_of_ble_eq_true rfl)) dL_law_1223 ⟨(show cells + 3 ≤ 600000 by omega), (show slots + 32489 ≤ 7302250 by omega)⟩) hP hD hS hA (fun r8_ u9_ H locs hq hKn_ hP hD hS => ?_)
        obtain ⟨κ10_, φ11_, ψ12_, τ13_⟩ := u9_
        obtain ⟨hkκ10_, hτ13_, hφ11_, haκ10_, qτ13_⟩ := hq
        have hKx : va_K (dC, dI) vwCl (tT κ10_) s := hKn_
        have bc0_ := bc_n he7_
        obtain ⟨a9_, ha9_⟩ := qτ13_.2
        have bc1_ : bc κ10_ = 1 := bc_s ha9_
        have hP : va_P (dC, dI) vwCl ((mW h ad cl μ) ++ (xW κ10_ (xX κ10_ φ11_ ψ12_) τ13_)) H := hP
        have hD : va_D A ((mW h ad cl μ) ++ (xW κ10_ (xX κ10_ φ11_ ψ12_) τ13_)) := hD
        refine W.widen (k := (cells + 3)) (n := (slots + 32489)) (Nat.le_refl _) (Nat.le_refl _) ?_
        refine lv_pop hx hb dL_law_1226 rfl ?_
        refine lv_aload_n hx hb dL_law_1227 rfl (lv_at hl 2 rfl) ?_
        refine lv_aload_n hx hb dL_law_1228 rfl (lv_at hl 3 rfl) ?_
        refine lv_iload_n hx hb dL_law_1229 rfl (lv_at hl 0 rfl) ?_
        refine lv_iconst (v := 1) hx hb dL_law_1230 (by decide) ?_
        refine lv_iadd hx hb dL_law_1231 ?_
        refine lv_topi (fun z14_ ez14_ => ?_)
        have tz14_ : z14_.toInt = i.toInt + 1 := ti_add ez14_ rfl (by decide) (by omega) (by omega)
        refine va_sld hx hb hX hbl hbA hS (sx_in tz14_ hi.1 (by decide) (by omega)) dL_law_1232 ?_
        refine lv_topi (fun y15_ ey15_ => ?_)
        have qy15_ : y15_ = y2_ := by rw [ey15_, ey2_, show z14_ = z1_ from Int32.toInt_inj.mp (by omega)]
        refine lv_aload_n hx hb dL_law_1233 rfl (lv_at hl 3 rfl) ?_
        refine lv_iload_n hx hb dL_law_1234 rfl (lv_at hl 0 rfl) ?_
        refine lv_iconst (v := 2) hx hb dL_law_1235 (by decide) ?_
        refine lv_iadd hx hb dL_law_1236 ?_
        refine lv_topi (fun z16_ ez16_ => ?_)
        have tz16_ : z16_.toInt = i.toInt + 2 := ti_add ez16_ rfl (by decide) (by omega) (by omega)
        refine va_sld hx hb hX hbl hbA hS (sx_in tz16_ hi.1 (by decide) (by omega)) dL_law_1237 ?_
        refine lv_topi (fun y17_ ey17_ => ?_)
        have qy17_ : y17_ = y4_ := by rw [ey17_, ey4_, show z16_ = z3_ from Int32.toInt_inj.mp (by omega)]
        refine lv_aload_n hx hb dL_law_1238 rfl (lv_at hl 3 rfl) ?_
        refine lv_iload_n hx hb dL_law_1239 rfl (lv_at hl 0 rfl) ?_
        refine lv_iconst (v := 3) hx hb dL_law_1240 (by decide) ?_
        refine lv_iadd hx hb dL_law_1241 ?_
        refine lv_topi (fun z18_ ez18_ => ?_)
        have tz18_ : z18_.toInt = i.toInt + 3 := ti_add ez18_ rfl (by decide) (by omega) (by omega)
        refine va_sld hx hb hX hbl hbA hS (sx_in tz18_ hi.1 (by decide) (by omega)) dL_law_1242 ?_
        refine lv_topi (fun y19_ ey19_ => ?_)
        have qy19_ : y19_ = y6_ := by rw [ey19_, ey6_, show z18_ = z5_ from Int32.toInt_inj.mp (by omega)]
        refine zp_i (wc := (mW h ad cl μ)) (wr := (xW κ10_ (xX κ10_ φ11_ ψ12_) τ13_)) (va_runV (As := [.int y15_, .int y17_, .int y19_]) (rest := []) ⟨hx, hb, hml, hown, hts⟩ (n_planned l dC dI h ad cl H.size μ y15_ y17_ y19_ hM hRI) (cwV 3 hts gl_n_planned rfl rfl rfl dd_n_planned ⟨Nat.le_of_ble_eq_true rfl, Nat.le_of_ble_eq_true rfl⟩) (preV (lP hP) hKm (lD hD) hE.x (ci := 12) (q0 := 0) rfl rfl) rfl rfl hl.1 rfl (lv_room (Nat.le_of_ble_eq_true rfl)) dL_law_1243 ⟨(show (cells + 3) + 0 ≤ 600000 by omega), (show (slots + 32489) + 0 ≤ 7302250 by omega)⟩) hP hD hS hA (fun r20_ μ21_ H locs hq hP hD hS => ?_)
        obtain ⟨hμ21_, xμ21_⟩ := hq
        have iμ21_ : RI μ21_ := RI_scr hM hRI xμ21_
        refine W.widen (k := (cells + 3)) (n := (slots + 32489)) (Nat.le_refl _) (Nat.le_refl _) ?_
        refine lv_pop hx hb dL_law_1246 rfl ?_
        refine lv_goto (tgt := 1273) hx hb dL_law_1247 (by decide) ?_
        have hG9_ : LG dC dI A s κ10_ φ11_ ψ12_ τ13_ h ad cl μ21_ H locs := ⟨hP, hD, hS, hKm, hKx, hkκ10_, hτ13_, hφ11_, hμ21_, iμ21_⟩
        exact kk _ _ _ _ _ _ _ (cells + 3) (slots + 32489) hG9_ haκ10_ (by omega) (by omega)
      · refine zc_i (wr := (mW h ad cl μ)) (wc := (xW κ (xX κ φ ψ) σ)) (va_runV (As := [.int y2_, .int y4_, .int y6_]) (rest := []) ⟨hx, hb, hml, hown, hts⟩ (v_plannedM l dC dI κ H.size φ ψ σ y2_ y4_ y6_ hk hI hF hs_) (cwV 3 hts gl_v_plannedM rfl rfl rfl dd_v_plannedM ⟨Nat.le_of_ble_eq_true rfl, Nat.le_of_ble_eq_true rfl⟩) (preVy (rP hP) hKx (rD hD) hE (ci := 11) (q0 := 0) rfl rfl) rfl rfl hl.1 rfl (lv_room (Nat.le_of_ble_eq_true rfl)) dL_law_1223 ⟨(show cells + 0 ≤ 600000 by omega), (show slots + 0 ≤ 7302250 by omega)⟩) hP hD hS hA (fun r23_ u24_ H locs hq hKn_ hP hD hS => ?_)
        obtain ⟨φ26_, ψ27_, τ28_⟩ := u24_
        obtain ⟨hτ28_, hφ26_, qτ28_⟩ := hq
        have hP : va_P (dC, dI) vwCl ((mW h ad cl μ) ++ (xW κ (xX κ φ26_ ψ27_) τ28_)) H := hP
        have hD : va_D A ((mW h ad cl μ) ++ (xW κ (xX κ φ26_ ψ27_) τ28_)) := hD
        refine W.widen (k := cells) (n := slots) (Nat.le_refl _) (Nat.le_refl _) ?_
        refine lv_pop hx hb dL_law_1226 rfl ?_
        refine lv_aload_n hx hb dL_law_1227 rfl (lv_at hl 2 rfl) ?_
        refine lv_aload_n hx hb dL_law_1228 rfl (lv_at hl 3 rfl) ?_
        refine lv_iload_n hx hb dL_law_1229 rfl (lv_at hl 0 rfl) ?_
        refine lv_iconst (v := 1) hx hb dL_law_1230 (by decide) ?_
        refine lv_iadd hx hb dL_law_1231 ?_
        refine lv_topi (fun z29_ ez29_ => ?_)
        have tz29_ : z29_.toInt = i.toInt + 1 := ti_add ez29_ rfl (by decide) (by omega) (by omega)
        refine va_sld hx hb hX hbl hbA hS (sx_in tz29_ hi.1 (by decide) (by omega)) dL_law_1232 ?_
        refine lv_topi (fun y30_ ey30_ => ?_)
        have qy30_ : y30_ = y2_ := by rw [ey30_, ey2_, show z29_ = z1_ from Int32.toInt_inj.mp (by omega)]
        refine lv_aload_n hx hb dL_law_1233 rfl (lv_at hl 3 rfl) ?_
        refine lv_iload_n hx hb dL_law_1234 rfl (lv_at hl 0 rfl) ?_
        refine lv_iconst (v := 2) hx hb dL_law_1235 (by decide) ?_
        refine lv_iadd hx hb dL_law_1236 ?_
        refine lv_topi (fun z31_ ez31_ => ?_)
        have tz31_ : z31_.toInt = i.toInt + 2 := ti_add ez31_ rfl (by decide) (by omega) (by omega)
        refine va_sld hx hb hX hbl hbA hS (sx_in tz31_ hi.1 (by decide) (by omega)) dL_law_1237 ?_
        refine lv_topi (fun y32_ ey32_ => ?_)
        have qy32_ : y32_ = y4_ := by rw [ey32_, ey4_, show z31_ = z3_ from Int32.toInt_inj.mp (by omega)]
        refine lv_aload_n hx hb dL_law_1238 rfl (lv_at hl 3 rfl) ?_
        refine lv_iload_n hx hb dL_law_1239 rfl (lv_at hl 0 rfl) ?_
        refine lv_iconst (v := 3) hx hb dL_law_1240 (by decide) ?_
        refine lv_iadd hx hb dL_law_1241 ?_
        refine lv_topi (fun z33_ ez33_ => ?_)
        have tz33_ : z33_.toInt = i.toInt + 3 := ti_add ez33_ rfl (by decide) (by omega) (by omega)
        refine va_sld hx hb hX hbl hbA hS (sx_in tz33_ hi.1 (by decide) (by omega)) dL_law_1242 ?_
        refine lv_topi (fun y34_ ey34_ => ?_)
        have qy34_ : y34_ = y6_ := by rw [ey34_, ey6_, show z33_ = z5_ from Int32.toInt_inj.mp (by omega)]
        refine zp_i (wc := (mW h ad cl μ)) (wr := (xW κ (xX κ φ26_ ψ27_) τ28_)) (va_runV (As := [.int y30_, .int y32_, .int y34_]) (rest := []) ⟨hx, hb, hml, hown, hts⟩ (n_planned l dC dI h ad cl H.size μ y30_ y32_ y34_ hM hRI) (cwV 3 hts gl_n_planned rfl rfl rfl dd_n_planned ⟨Nat.le_of_ble_eq_true rfl, Nat.le_of_ble_eq_true rfl⟩) (preV (lP hP) hKm (lD hD) hE.x (ci := 12) (q0 := 0) rfl rfl) rfl rfl hl.1 rfl (lv_room (Nat.le_of_ble_eq_true rfl)) dL_law_1243 ⟨(show cells + 0 ≤ 600000 by omega), (show slots + 0 ≤ 7302250 by omega)⟩) hP hD hS hA (fun r35_ μ36_ H locs hq hP hD hS => ?_)
        obtain ⟨hμ36_, xμ36_⟩ := hq
        have iμ36_ : RI μ36_ := RI_scr hM hRI xμ36_
        refine W.widen (k := cells) (n := slots) (Nat.le_refl _) (Nat.le_refl _) ?_
        refine lv_pop hx hb dL_law_1246 rfl ?_
        refine lv_goto (tgt := 1273) hx hb dL_law_1247 (by decide) ?_
        have hG9_ : LG dC dI A s κ φ26_ ψ27_ τ28_ h ad cl μ36_ H locs := ⟨hP, hD, hS, hKm, hKx, hk, hτ28_, hφ26_, hμ36_, iμ36_⟩
        exact kk _ _ _ _ _ _ _ cells slots hG9_ rfl (by omega) (by omega)
    · refine zc_i (wr := (mW h ad cl μ)) (wc := (xW κ (xX κ φ ψ) σ)) (va_runV (As := [.int y2_, .int y4_, .int y6_]) (rest := []) ⟨hx, hb, hml, hown, hts⟩ (v_plannedN l dC dI κ H.size φ ψ σ y2_ y4_ y6_ hk hI hF hn_) (cwV 3 hts gl_v_plannedN rfl rfl rfl dd_v_plannedN ⟨Nat.le_of_ble_eq_true rfl, Nat.le_of_ble_eq_true rfl⟩) (preVy (rP hP) hKx (rD hD) hE (ci := 11) (q0 := 0) rfl rfl) rfl rfl hl.1 rfl (lv_room (Nat.le_of_ble_eq_true rfl)) dL_law_1223 ⟨(show cells + 0 ≤ 600000 by omega), (show slots + 0 ≤ 7302250 by omega)⟩) hP hD hS hA (fun r38_ u39_ H locs hq hKn_ hP hD hS => ?_)
      obtain ⟨φ41_, ψ42_, τ43_⟩ := u39_
      obtain ⟨hτ43_, hφ41_, qτ43_⟩ := hq
      have hP : va_P (dC, dI) vwCl ((mW h ad cl μ) ++ (xW κ (xX κ φ41_ ψ42_) τ43_)) H := hP
      have hD : va_D A ((mW h ad cl μ) ++ (xW κ (xX κ φ41_ ψ42_) τ43_)) := hD
      refine W.widen (k := cells) (n := slots) (Nat.le_refl _) (Nat.le_refl _) ?_
      refine lv_pop hx hb dL_law_1226 rfl ?_
      refine lv_aload_n hx hb dL_law_1227 rfl (lv_at hl 2 rfl) ?_
      refine lv_aload_n hx hb dL_law_1228 rfl (lv_at hl 3 rfl) ?_
      refine lv_iload_n hx hb dL_law_1229 rfl (lv_at hl 0 rfl) ?_
      refine lv_iconst (v := 1) hx hb dL_law_1230 (by decide) ?_
      refine lv_iadd hx hb dL_law_1231 ?_
      refine lv_topi (fun z44_ ez44_ => ?_)
      have tz44_ : z44_.toInt = i.toInt + 1 := ti_add ez44_ rfl (by decide) (by omega) (by omega)
      refine va_sld hx hb hX hbl hbA hS (sx_in tz44_ hi.1 (by decide) (by omega)) dL_law_1232 ?_
      refine lv_topi (fun y45_ ey45_ => ?_)
      have qy45_ : y45_ = y2_ := by rw [ey45_, ey2_, show z44_ = z1_ from Int32.toInt_inj.mp (by omega)]
      refine lv_aload_n hx hb dL_law_1233 rfl (lv_at hl 3 rfl) ?_
      refine lv_iload_n hx hb dL_law_1234 rfl (lv_at hl 0 rfl) ?_
      refine lv_iconst (v := 2) hx hb dL_law_1235 (by decide) ?_
      refine lv_iadd hx hb dL_law_1236 ?_
      refine lv_topi (fun z46_ ez46_ => ?_)
      have tz46_ : z46_.toInt = i.toInt + 2 := ti_add ez46_ rfl (by decide) (by omega) (by omega)
      refine va_sld hx hb hX hbl hbA hS (sx_in tz46_ hi.1 (by decide) (by omega)) dL_law_1237 ?_
      refine lv_topi (fun y47_ ey47_ => ?_)
      have qy47_ : y47_ = y4_ := by rw [ey47_, ey4_, show z46_ = z3_ from Int32.toInt_inj.mp (by omega)]
      refine lv_aload_n hx hb dL_law_1238 rfl (lv_at hl 3 rfl) ?_
      refine lv_iload_n hx hb dL_law_1239 rfl (lv_at hl 0 rfl) ?_
      refine lv_iconst (v := 3) hx hb dL_law_1240 (by decide) ?_
      refine lv_iadd hx hb dL_law_1241 ?_
      refine lv_topi (fun z48_ ez48_ => ?_)
      have tz48_ : z48_.toInt = i.toInt + 3 := ti_add ez48_ rfl (by decide) (by omega) (by omega)
      refine va_sld hx hb hX hbl hbA hS (sx_in tz48_ hi.1 (by decide) (by omega)) dL_law_1242 ?_
      refine lv_topi (fun y49_ ey49_ => ?_)
      have qy49_ : y49_ = y6_ := by rw [ey49_, ey6_, show z48_ = z5_ from Int32.toInt_inj.mp (by omega)]
      refine zp_i (wc := (mW h ad cl μ)) (wr := (xW κ (xX κ φ41_ ψ42_) τ43_)) (va_runV (As := [.int y45_, .int y47_, .int y49_]) (rest := []) ⟨hx, hb, hml, hown, hts⟩ (n_planned l dC dI h ad cl H.size μ y45_ y47_ y49_ hM hRI) (cwV 3 hts gl_n_planned rfl rfl rfl dd_n_planned ⟨Nat.le_of_ble_eq_true rfl, Nat.le_of_ble_eq_true rfl⟩) (preV (lP hP) hKm (lD hD) hE.x (ci := 12) (q0 := 0) rfl rfl) rfl rfl hl.1 rfl (lv_room (Nat.le_of_ble_eq_true rfl)) dL_law_1243 ⟨(show cells + 0 ≤ 600000 by omega), (show slots + 0 ≤ 7302250 by omega)⟩) hP hD hS hA (fun r50_ μ51_ H locs hq hP hD hS => ?_)
      obtain ⟨hμ51_, xμ51_⟩ := hq
      have iμ51_ : RI μ51_ := RI_scr hM hRI xμ51_
      refine W.widen (k := cells) (n := slots) (Nat.le_refl _) (Nat.le_refl _) ?_
      refine lv_pop hx hb dL_law_1246 rfl ?_
      refine lv_goto (tgt := 1273) hx hb dL_law_1247 (by decide) ?_
      have hG9_ : LG dC dI A s κ φ41_ ψ42_ τ43_ h ad cl μ51_ H locs := ⟨hP, hD, hS, hKm, hKx, hk, hτ43_, hφ41_, hμ51_, iμ51_⟩
      exact kk _ _ _ _ _ _ _ cells slots hG9_ rfl (by omega) (by omega)
  · refine zc_i (wr := (mW h ad cl μ)) (wc := (xW κ (xX κ φ ψ) σ)) (va_runV (As := [.int y2_, .int y4_, .int y6_]) (rest := []) ⟨hx, hb, hml, hown, hts⟩ (v_planned l dC dI κ H.size φ ψ σ y2_ y4_ y6_ hk hI hF a0_ he7_) (cwV 3 hts gl_v_planned rfl rfl rfl dd_v_planned ⟨Nat.le_of_ble_eq_true rfl, Nat.le_of_ble_eq_true rfl⟩) (preVy (rP hP) hKx (rD hD) hE (ci := 11) (q0 := 0) rfl rfl) rfl rfl hl.1 rfl (lv_room (Nat.le_of_ble_eq_true rfl)) dL_law_1223 ⟨(show cells + 0 ≤ 600000 by omega), (show slots + 0 ≤ 7302250 by omega)⟩) hP hD hS hA (fun r53_ u54_ H locs hq hKn_ hP hD hS => ?_)
    obtain ⟨φ56_, ψ57_, τ58_⟩ := u54_
    obtain ⟨hτ58_, hφ56_, qτ58_⟩ := hq
    have hP : va_P (dC, dI) vwCl ((mW h ad cl μ) ++ (xW κ (xX κ φ56_ ψ57_) τ58_)) H := hP
    have hD : va_D A ((mW h ad cl μ) ++ (xW κ (xX κ φ56_ ψ57_) τ58_)) := hD
    refine W.widen (k := cells) (n := slots) (Nat.le_refl _) (Nat.le_refl _) ?_
    refine lv_pop hx hb dL_law_1226 rfl ?_
    refine lv_aload_n hx hb dL_law_1227 rfl (lv_at hl 2 rfl) ?_
    refine lv_aload_n hx hb dL_law_1228 rfl (lv_at hl 3 rfl) ?_
    refine lv_iload_n hx hb dL_law_1229 rfl (lv_at hl 0 rfl) ?_
    refine lv_iconst (v := 1) hx hb dL_law_1230 (by decide) ?_
    refine lv_iadd hx hb dL_law_1231 ?_
    refine lv_topi (fun z59_ ez59_ => ?_)
    have tz59_ : z59_.toInt = i.toInt + 1 := ti_add ez59_ rfl (by decide) (by omega) (by omega)
    refine va_sld hx hb hX hbl hbA hS (sx_in tz59_ hi.1 (by decide) (by omega)) dL_law_1232 ?_
    refine lv_topi (fun y60_ ey60_ => ?_)
    have qy60_ : y60_ = y2_ := by rw [ey60_, ey2_, show z59_ = z1_ from Int32.toInt_inj.mp (by omega)]
    refine lv_aload_n hx hb dL_law_1233 rfl (lv_at hl 3 rfl) ?_
    refine lv_iload_n hx hb dL_law_1234 rfl (lv_at hl 0 rfl) ?_
    refine lv_iconst (v := 2) hx hb dL_law_1235 (by decide) ?_
    refine lv_iadd hx hb dL_law_1236 ?_
    refine lv_topi (fun z61_ ez61_ => ?_)
    have tz61_ : z61_.toInt = i.toInt + 2 := ti_add ez61_ rfl (by decide) (by omega) (by omega)
    refine va_sld hx hb hX hbl hbA hS (sx_in tz61_ hi.1 (by decide) (by omega)) dL_law_1237 ?_
    refine lv_topi (fun y62_ ey62_ => ?_)
    have qy62_ : y62_ = y4_ := by rw [ey62_, ey4_, show z61_ = z3_ from Int32.toInt_inj.mp (by omega)]
    refine lv_aload_n hx hb dL_law_1238 rfl (lv_at hl 3 rfl) ?_
    refine lv_iload_n hx hb dL_law_1239 rfl (lv_at hl 0 rfl) ?_
    refine lv_iconst (v := 3) hx hb dL_law_1240 (by decide) ?_
    refine lv_iadd hx hb dL_law_1241 ?_
    refine lv_topi (fun z63_ ez63_ => ?_)
    have tz63_ : z63_.toInt = i.toInt + 3 := ti_add ez63_ rfl (by decide) (by omega) (by omega)
    refine va_sld hx hb hX hbl hbA hS (sx_in tz63_ hi.1 (by decide) (by omega)) dL_law_1242 ?_
    refine lv_topi (fun y64_ ey64_ => ?_)
    have qy64_ : y64_ = y6_ := by rw [ey64_, ey6_, show z63_ = z5_ from Int32.toInt_inj.mp (by omega)]
    refine zp_i (wc := (mW h ad cl μ)) (wr := (xW κ (xX κ φ56_ ψ57_) τ58_)) (va_runV (As := [.int y60_, .int y62_, .int y64_]) (rest := []) ⟨hx, hb, hml, hown, hts⟩ (n_planned l dC dI h ad cl H.size μ y60_ y62_ y64_ hM hRI) (cwV 3 hts gl_n_planned rfl rfl rfl dd_n_planned ⟨Nat.le_of_ble_eq_true rfl, Nat.le_of_ble_eq_true rfl⟩) (preV (lP hP) hKm (lD hD) hE.x (ci := 12) (q0 := 0) rfl rfl) rfl rfl hl.1 rfl (lv_room (Nat.le_of_ble_eq_true rfl)) dL_law_1243 ⟨(show cells + 0 ≤ 600000 by omega), (show slots + 0 ≤ 7302250 by omega)⟩) hP hD hS hA (fun r65_ μ66_ H locs hq hP hD hS => ?_)
    obtain ⟨hμ66_, xμ66_⟩ := hq
    have iμ66_ : RI μ66_ := RI_scr hM hRI xμ66_
    refine W.widen (k := cells) (n := slots) (Nat.le_refl _) (Nat.le_refl _) ?_
    refine lv_pop hx hb dL_law_1246 rfl ?_
    refine lv_goto (tgt := 1273) hx hb dL_law_1247 (by decide) ?_
    have hG9_ : LG dC dI A s κ φ56_ ψ57_ τ58_ h ad cl μ66_ H locs := ⟨hP, hD, hS, hKm, hKx, hk, hτ58_, hφ56_, hμ66_, iμ66_⟩
    exact kk _ _ _ _ _ _ _ cells slots hG9_ rfl (by omega) (by omega)
set_option maxHeartbeats 4000000 in
set_option maxRecDepth 100000 in
theorem law_30 {p : Program} {l : Launch} {e : Env} {s : State} {m : MethodId} {below : List Frame} {meth : Method} {c : Code} {b L : Nat} {xs : Nat → Int32} (C0 : lw_At p s m meth c b L xs) (hE : Ey s) {A : Nat → Prop} (hAe : A = fun q : Nat => s.heap.size ≤ q) {dC : Nat → ClassId} {dI : Nat → Nat → Nat} {adK adV : Nat → Nat} (hZ : Zs adK adV A s s.heap) (hR : Rs adK s) {κ : CE} {φ ψ σ : MS} {h : Nat} {ad : Nat → Nat} {cl : Nat → ClassId} {μ : MS} {H : Heap} {locs : List Loc} {cells slots : Nat} {i : Int32} {ls : Array Slot} (hi : 0 ≤ i.toInt ∧ i.toInt + 5 < (L : Int) ∧ L ≤ 3072) (hc : cells + 1011 ≤ 600000 ∧ slots + 43534 ≤ 7302250) (G : LG dC dI A s κ φ ψ σ h ad cl μ H locs) (hl : lv_has ls 4 [(3, .int i), (1, .ref (kA κ 0)), (2, .ref h), (0, .ref b)]) {Q : State → Prop}
    (kk : ∀ (κ' : CE) (φ' ψ' σ' μ' : MS) (H' : Heap) (locs' : List Loc) (c' t' : Nat), LG dC dI A s κ' φ' ψ' σ' h ad cl μ' H' locs' → kA κ' 0 = kA κ 0 → c' + 3 * bc κ ≤ cells + 1008 + 3 * bc κ' → t' + 32489 * bc κ ≤ slots + 11045 + 32489 * bc κ' → W p l e room_1 s m #[Value.ref b] below meth c H' locs' c' t' Q (F0 m 1273 ls [])) : W p l e room_1 s m #[Value.ref b] below meth c H locs cells slots Q (F0 m 1250 ls []) := by
  obtain ⟨hx, hb, hr, hml, hown, hts, hX, hbl, hlocks, hgv⟩ := id C0
  have hA : ∀ q : Nat, s.heap.size ≤ q → A q := fun q h => by rw [hAe]; exact h
  have hbA : ¬ A b := by rw [hAe]; exact Nat.not_le.mpr hbl
  obtain ⟨hP, hD, hS, hKm, hKx, hk, hI, hF, hM, hRI⟩ := G
  have hKc : va_K (dC, dI) vwCl (cT κ) s := hKx.sub [0, 1, 2, 3, 4, 5, 6, 7, 8, 9, 10, 11, 12, 13, 14, 15, 16, 17, 18, 19, 20] rfl
  refine lv_aload_n hx hb dL_law_1250 rfl (lv_at hl 1 rfl) ?_
  refine lv_aload_n hx hb dL_law_1251 rfl (lv_at hl 3 rfl) ?_
  refine lv_iload_n hx hb dL_law_1252 rfl (lv_at hl 0 rfl) ?_
  refine lv_iconst (v := 1) hx hb dL_law_1253 (by decide) ?_
  refine lv_iadd hx hb dL_law_1254 ?_
  refine lv_topi (fun z1_ ez1_ => ?_)
  have tz1_ : z1_.toInt = i.toInt + 1 := ti_add ez1_ rfl (by decide) (by omega) (by omega)
  refine va_sld hx hb hX hbl hbA hS (sx_in tz1_ hi.1 (by decide) (by omega)) dL_law_1255 ?_
  refine lv_topi (fun y2_ ey2_ => ?_)
  have hP := lxP hP
  have hD := lxD hD
  refine zc_i (wr := (mW h ad cl μ)) (wc := cW (ky κ (xX κ φ ψ)) σ) (va_runV (As := [.int y2_]) (rest := []) ⟨hx, hb, hml, hown, hts⟩ (k_about l dC dI (ky κ (xX κ φ ψ)) H.size σ y2_ hk hI ) (cwV 1 hts gl_k_about rfl rfl rfl dd_k_about ⟨Nat.le_of_ble_eq_true rfl, Nat.le_of_ble_eq_true rfl⟩) (preVy (rP hP) hKc (rD hD) hE (ci := 11) (q0 := 0) rfl rfl) rfl rfl hl.1 rfl (lv_room (Nat.le_of_ble_eq_true rfl)) dL_law_1256 ⟨(show cells + 0 ≤ 600000 by omega), (show slots + 0 ≤ 7302250 by omega)⟩) hP hD hS hA (fun r4_ τ5_ H locs hq _ hP hD hS => ?_)
  obtain ⟨hτ5_, qτ5_⟩ := hq
  rw [hτ5_] at hP hD
  have hP := xlP hP
  have hD := xlD hD
  refine W.widen (k := cells) (n := slots) (Nat.le_refl _) (Nat.le_refl _) ?_
  refine lv_pop hx hb dL_law_1259 rfl ?_
  refine lv_aload_n hx hb dL_law_1260 rfl (lv_at hl 2 rfl) ?_
  refine lv_aload_n hx hb dL_law_1261 rfl (lv_at hl 3 rfl) ?_
  refine lv_iload_n hx hb dL_law_1262 rfl (lv_at hl 0 rfl) ?_
  refine lv_iconst (v := 1) hx hb dL_law_1263 (by decide) ?_
  refine lv_iadd hx hb dL_law_1264 ?_
  refine lv_topi (fun z6_ ez6_ => ?_)
  have tz6_ : z6_.toInt = i.toInt + 1 := ti_add ez6_ rfl (by decide) (by omega) (by omega)
  refine va_sld hx hb hX hbl hbA hS (sx_in tz6_ hi.1 (by decide) (by omega)) dL_law_1265 ?_
  refine lv_topi (fun y7_ ey7_ => ?_)
  have qy7_ : y7_ = y2_ := by rw [ey7_, ey2_, show z6_ = z1_ from Int32.toInt_inj.mp (by omega)]
  refine zp_i (wc := (mW h ad cl μ)) (wr := (xW κ (xX κ φ ψ) σ)) (va_runV (As := [.int y7_]) (rest := []) ⟨hx, hb, hml, hown, hts⟩ (n_about l dC dI h ad cl H.size μ y7_ hM) (cwV 1 hts gl_n_about rfl rfl rfl dd_n_about ⟨Nat.le_of_ble_eq_true rfl, Nat.le_of_ble_eq_true rfl⟩) (preV (lP hP) hKm (lD hD) hE.x (ci := 12) (q0 := 0) rfl rfl) rfl rfl hl.1 rfl (lv_room (Nat.le_of_ble_eq_true rfl)) dL_law_1266 ⟨(show cells + 0 ≤ 600000 by omega), (show slots + 0 ≤ 7302250 by omega)⟩) hP hD hS hA (fun r8_ μ9_ H locs hq hP hD hS => ?_)
  rw [show μ9_ = μ from hq.symm] at hP hD
  refine W.widen (k := cells) (n := slots) (Nat.le_refl _) (Nat.le_refl _) ?_
  refine lv_pop hx hb dL_law_1269 rfl ?_
  refine lv_goto (tgt := 1273) hx hb dL_law_1270 (by decide) ?_
  have hG9_ : LG dC dI A s κ φ ψ σ h ad cl μ H locs := ⟨hP, hD, hS, hKm, hKx, hk, hI, hF, hM, hRI⟩
  exact kk _ _ _ _ _ _ _ cells slots hG9_ rfl (by omega) (by omega)
