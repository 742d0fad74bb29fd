/-! decode rows of the law, on (printed by wip/tools/gene5.py) -/
theorem d_Law_991 : decode code 991 = .ok (.goto 4, 3) := by decide +kernel
theorem d_Law_994 : decode code 994 = .ok (.iconst 0, 1) := by decide +kernel
theorem d_Law_995 : decode code 995 = .ok (.invokevirtual 114, 3) := by decide +kernel
theorem d_Law_998 : decode code 998 = .ok (.if_icmp .eq 782, 3) := by decide +kernel
theorem d_Law_1001 : decode code 1001 = .ok (.iconst 0, 1) := by decide +kernel
theorem d_Law_1002 : decode code 1002 = .ok (.ireturn, 1) := by decide +kernel
theorem d_Law_1003 : decode code 1003 = .ok (.aload_n 1, 1) := by decide +kernel
theorem d_Law_1004 : decode code 1004 = .ok (.aload_n 0, 1) := by decide +kernel
theorem d_Law_1005 : decode code 1005 = .ok (.iload_n 3, 1) := by decide +kernel
theorem d_Law_1006 : decode code 1006 = .ok (.iconst 1, 1) := by decide +kernel
theorem d_Law_1007 : decode code 1007 = .ok (.iadd, 1) := by decide +kernel
theorem d_Law_1008 : decode code 1008 = .ok (.iaload, 1) := by decide +kernel
theorem d_Law_1009 : decode code 1009 = .ok (.aload_n 0, 1) := by decide +kernel
theorem d_Law_1010 : decode code 1010 = .ok (.iload_n 3, 1) := by decide +kernel
theorem d_Law_1011 : decode code 1011 = .ok (.iconst 2, 1) := by decide +kernel
theorem d_Law_1012 : decode code 1012 = .ok (.iadd, 1) := by decide +kernel
theorem d_Law_1013 : decode code 1013 = .ok (.iaload, 1) := by decide +kernel
theorem d_Law_1014 : decode code 1014 = .ok (.invokevirtual 115, 3) := by decide +kernel
theorem d_Law_1017 : decode code 1017 = .ok (.aload_n 2, 1) := by decide +kernel
theorem d_Law_1018 : decode code 1018 = .ok (.aload_n 0, 1) := by decide +kernel
theorem d_Law_1019 : decode code 1019 = .ok (.iload_n 3, 1) := by decide +kernel
theorem d_Law_1020 : decode code 1020 = .ok (.iconst 1, 1) := by decide +kernel
theorem d_Law_1021 : decode code 1021 = .ok (.iadd, 1) := by decide +kernel
theorem d_Law_1022 : decode code 1022 = .ok (.iaload, 1) := by decide +kernel
theorem d_Law_1023 : decode code 1023 = .ok (.aload_n 0, 1) := by decide +kernel
theorem d_Law_1024 : decode code 1024 = .ok (.iload_n 3, 1) := by decide +kernel
theorem d_Law_1025 : decode code 1025 = .ok (.iconst 2, 1) := by decide +kernel
theorem d_Law_1026 : decode code 1026 = .ok (.iadd, 1) := by decide +kernel
theorem d_Law_1027 : decode code 1027 = .ok (.iaload, 1) := by decide +kernel
theorem d_Law_1028 : decode code 1028 = .ok (.invokevirtual 118, 3) := by decide +kernel
theorem d_Law_1031 : decode code 1031 = .ok (.if_icmp .eq 749, 3) := by decide +kernel
theorem d_Law_1034 : decode code 1034 = .ok (.iconst 0, 1) := by decide +kernel
theorem d_Law_1035 : decode code 1035 = .ok (.ireturn, 1) := by decide +kernel
theorem d_Law_1036 : decode code 1036 = .ok (.aload_n 1, 1) := by decide +kernel
theorem d_Law_1037 : decode code 1037 = .ok (.aload_n 0, 1) := by decide +kernel
theorem d_Law_1038 : decode code 1038 = .ok (.iload_n 3, 1) := by decide +kernel
theorem d_Law_1039 : decode code 1039 = .ok (.iconst 1, 1) := by decide +kernel
theorem d_Law_1040 : decode code 1040 = .ok (.iadd, 1) := by decide +kernel
theorem d_Law_1041 : decode code 1041 = .ok (.iaload, 1) := by decide +kernel
theorem d_Law_1042 : decode code 1042 = .ok (.aload_n 0, 1) := by decide +kernel
theorem d_Law_1043 : decode code 1043 = .ok (.iload_n 3, 1) := by decide +kernel
theorem d_Law_1044 : decode code 1044 = .ok (.iconst 2, 1) := by decide +kernel
theorem d_Law_1045 : decode code 1045 = .ok (.iadd, 1) := by decide +kernel
theorem d_Law_1046 : decode code 1046 = .ok (.iaload, 1) := by decide +kernel
theorem d_Law_1047 : decode code 1047 = .ok (.invokevirtual 119, 3) := by decide +kernel
theorem d_Law_1050 : decode code 1050 = .ok (.aload_n 2, 1) := by decide +kernel
theorem d_Law_1051 : decode code 1051 = .ok (.aload_n 0, 1) := by decide +kernel
theorem d_Law_1052 : decode code 1052 = .ok (.iload_n 3, 1) := by decide +kernel
theorem d_Law_1053 : decode code 1053 = .ok (.iconst 1, 1) := by decide +kernel
theorem d_Law_1054 : decode code 1054 = .ok (.iadd, 1) := by decide +kernel
theorem d_Law_1055 : decode code 1055 = .ok (.iaload, 1) := by decide +kernel
theorem d_Law_1056 : decode code 1056 = .ok (.aload_n 0, 1) := by decide +kernel
theorem d_Law_1057 : decode code 1057 = .ok (.iload_n 3, 1) := by decide +kernel
theorem d_Law_1058 : decode code 1058 = .ok (.iconst 2, 1) := by decide +kernel
theorem d_Law_1059 : decode code 1059 = .ok (.iadd, 1) := by decide +kernel
theorem d_Law_1060 : decode code 1060 = .ok (.iaload, 1) := by decide +kernel
theorem d_Law_1061 : decode code 1061 = .ok (.invokevirtual 122, 3) := by decide +kernel
theorem d_Law_1064 : decode code 1064 = .ok (.if_icmp .eq 716, 3) := by decide +kernel
theorem d_Law_1067 : decode code 1067 = .ok (.iconst 0, 1) := by decide +kernel
theorem d_Law_1068 : decode code 1068 = .ok (.ireturn, 1) := by decide +kernel
theorem d_Law_1069 : decode code 1069 = .ok (.aload_n 1, 1) := by decide +kernel
theorem d_Law_1070 : decode code 1070 = .ok (.aload_n 0, 1) := by decide +kernel
theorem d_Law_1071 : decode code 1071 = .ok (.iload_n 3, 1) := by decide +kernel
theorem d_Law_1072 : decode code 1072 = .ok (.iconst 1, 1) := by decide +kernel
theorem d_Law_1073 : decode code 1073 = .ok (.iadd, 1) := by decide +kernel
theorem d_Law_1074 : decode code 1074 = .ok (.iaload, 1) := by decide +kernel
theorem d_Law_1075 : decode code 1075 = .ok (.invokevirtual 123, 3) := by decide +kernel
theorem d_Law_1078 : decode code 1078 = .ok (.aload_n 2, 1) := by decide +kernel
theorem d_Law_1079 : decode code 1079 = .ok (.aload_n 0, 1) := by decide +kernel
theorem d_Law_1080 : decode code 1080 = .ok (.iload_n 3, 1) := by decide +kernel
theorem d_Law_1081 : decode code 1081 = .ok (.iconst 1, 1) := by decide +kernel
theorem d_Law_1082 : decode code 1082 = .ok (.iadd, 1) := by decide +kernel
theorem d_Law_1083 : decode code 1083 = .ok (.iaload, 1) := by decide +kernel
theorem d_Law_1084 : decode code 1084 = .ok (.invokevirtual 127, 3) := by decide +kernel
theorem d_Law_1087 : decode code 1087 = .ok (.if_icmp .eq 693, 3) := by decide +kernel
theorem d_Law_1090 : decode code 1090 = .ok (.iconst 0, 1) := by decide +kernel
theorem d_Law_1091 : decode code 1091 = .ok (.ireturn, 1) := by decide +kernel
theorem d_Law_1092 : decode code 1092 = .ok (.aload_n 1, 1) := by decide +kernel
theorem d_Law_1093 : decode code 1093 = .ok (.aload_n 0, 1) := by decide +kernel
theorem d_Law_1094 : decode code 1094 = .ok (.iload_n 3, 1) := by decide +kernel
theorem d_Law_1095 : decode code 1095 = .ok (.iconst 1, 1) := by decide +kernel
theorem d_Law_1096 : decode code 1096 = .ok (.iadd, 1) := by decide +kernel
theorem d_Law_1097 : decode code 1097 = .ok (.iaload, 1) := by decide +kernel
theorem d_Law_1098 : decode code 1098 = .ok (.aload_n 0, 1) := by decide +kernel
theorem d_Law_1099 : decode code 1099 = .ok (.iload_n 3, 1) := by decide +kernel
theorem d_Law_1100 : decode code 1100 = .ok (.iconst 2, 1) := by decide +kernel
theorem d_Law_1101 : decode code 1101 = .ok (.iadd, 1) := by decide +kernel
theorem d_Law_1102 : decode code 1102 = .ok (.iaload, 1) := by decide +kernel
theorem d_Law_1103 : decode code 1103 = .ok (.invokevirtual 128, 3) := by decide +kernel
theorem d_Law_1106 : decode code 1106 = .ok (.aload_n 2, 1) := by decide +kernel
theorem d_Law_1107 : decode code 1107 = .ok (.aload_n 0, 1) := by decide +kernel
theorem d_Law_1108 : decode code 1108 = .ok (.iload_n 3, 1) := by decide +kernel
theorem d_Law_1109 : decode code 1109 = .ok (.iconst 1, 1) := by decide +kernel
theorem d_Law_1110 : decode code 1110 = .ok (.iadd, 1) := by decide +kernel
theorem d_Law_1111 : decode code 1111 = .ok (.iaload, 1) := by decide +kernel
theorem d_Law_1112 : decode code 1112 = .ok (.aload_n 0, 1) := by decide +kernel
theorem d_Law_1113 : decode code 1113 = .ok (.iload_n 3, 1) := by decide +kernel
theorem d_Law_1114 : decode code 1114 = .ok (.iconst 2, 1) := by decide +kernel
theorem d_Law_1115 : decode code 1115 = .ok (.iadd, 1) := by decide +kernel
theorem d_Law_1116 : decode code 1116 = .ok (.iaload, 1) := by decide +kernel
theorem d_Law_1117 : decode code 1117 = .ok (.invokevirtual 131, 3) := by decide +kernel
theorem d_Law_1120 : decode code 1120 = .ok (.if_icmp .eq 660, 3) := by decide +kernel
theorem d_Law_1123 : decode code 1123 = .ok (.iconst 0, 1) := by decide +kernel
theorem d_Law_1124 : decode code 1124 = .ok (.ireturn, 1) := by decide +kernel
theorem d_Law_1125 : decode code 1125 = .ok (.aload_n 1, 1) := by decide +kernel
theorem d_Law_1126 : decode code 1126 = .ok (.aload_n 0, 1) := by decide +kernel
theorem d_Law_1127 : decode code 1127 = .ok (.iload_n 3, 1) := by decide +kernel
theorem d_Law_1128 : decode code 1128 = .ok (.iconst 1, 1) := by decide +kernel
theorem d_Law_1129 : decode code 1129 = .ok (.iadd, 1) := by decide +kernel
theorem d_Law_1130 : decode code 1130 = .ok (.iaload, 1) := by decide +kernel
theorem d_Law_1131 : decode code 1131 = .ok (.aload_n 0, 1) := by decide +kernel
theorem d_Law_1132 : decode code 1132 = .ok (.iload_n 3, 1) := by decide +kernel
theorem d_Law_1133 : decode code 1133 = .ok (.iconst 2, 1) := by decide +kernel
theorem d_Law_1134 : decode code 1134 = .ok (.iadd, 1) := by decide +kernel
theorem d_Law_1135 : decode code 1135 = .ok (.iaload, 1) := by decide +kernel
theorem d_Law_1136 : decode code 1136 = .ok (.aload_n 0, 1) := by decide +kernel
theorem d_Law_1137 : decode code 1137 = .ok (.iload_n 3, 1) := by decide +kernel
theorem d_Law_1138 : decode code 1138 = .ok (.iconst 3, 1) := by decide +kernel
theorem d_Law_1139 : decode code 1139 = .ok (.iadd, 1) := by decide +kernel
theorem d_Law_1140 : decode code 1140 = .ok (.iaload, 1) := by decide +kernel
theorem d_Law_1141 : decode code 1141 = .ok (.invokevirtual 132, 3) := by decide +kernel
theorem d_Law_1144 : decode code 1144 = .ok (.aload_n 2, 1) := by decide +kernel
theorem d_Law_1145 : decode code 1145 = .ok (.aload_n 0, 1) := by decide +kernel
theorem d_Law_1146 : decode code 1146 = .ok (.iload_n 3, 1) := by decide +kernel
theorem d_Law_1147 : decode code 1147 = .ok (.iconst 1, 1) := by decide +kernel
theorem d_Law_1148 : decode code 1148 = .ok (.iadd, 1) := by decide +kernel
theorem d_Law_1149 : decode code 1149 = .ok (.iaload, 1) := by decide +kernel
theorem d_Law_1150 : decode code 1150 = .ok (.aload_n 0, 1) := by decide +kernel
theorem d_Law_1151 : decode code 1151 = .ok (.iload_n 3, 1) := by decide +kernel
theorem d_Law_1152 : decode code 1152 = .ok (.iconst 2, 1) := by decide +kernel
theorem d_Law_1153 : decode code 1153 = .ok (.iadd, 1) := by decide +kernel
theorem d_Law_1154 : decode code 1154 = .ok (.iaload, 1) := by decide +kernel
theorem d_Law_1155 : decode code 1155 = .ok (.aload_n 0, 1) := by decide +kernel
theorem d_Law_1156 : decode code 1156 = .ok (.iload_n 3, 1) := by decide +kernel
theorem d_Law_1157 : decode code 1157 = .ok (.iconst 3, 1) := by decide +kernel
theorem d_Law_1158 : decode code 1158 = .ok (.iadd, 1) := by decide +kernel
theorem d_Law_1159 : decode code 1159 = .ok (.iaload, 1) := by decide +kernel
theorem d_Law_1160 : decode code 1160 = .ok (.invokevirtual 136, 3) := by decide +kernel
theorem d_Law_1163 : decode code 1163 = .ok (.if_icmp .eq 617, 3) := by decide +kernel
theorem d_Law_1166 : decode code 1166 = .ok (.iconst 0, 1) := by decide +kernel
theorem d_Law_1167 : decode code 1167 = .ok (.ireturn, 1) := by decide +kernel
theorem d_Law_1168 : decode code 1168 = .ok (.aload_n 1, 1) := by decide +kernel
theorem d_Law_1169 : decode code 1169 = .ok (.aload_n 0, 1) := by decide +kernel
theorem d_Law_1170 : decode code 1170 = .ok (.iload_n 3, 1) := by decide +kernel
theorem d_Law_1171 : decode code 1171 = .ok (.iconst 1, 1) := by decide +kernel
theorem d_Law_1172 : decode code 1172 = .ok (.iadd, 1) := by decide +kernel
theorem d_Law_1173 : decode code 1173 = .ok (.iaload, 1) := by decide +kernel
theorem d_Law_1174 : decode code 1174 = .ok (.invokevirtual 137, 3) := by decide +kernel
theorem d_Law_1177 : decode code 1177 = .ok (.aload_n 2, 1) := by decide +kernel
theorem d_Law_1178 : decode code 1178 = .ok (.aload_n 0, 1) := by decide +kernel
theorem d_Law_1179 : decode code 1179 = .ok (.iload_n 3, 1) := by decide +kernel
theorem d_Law_1180 : decode code 1180 = .ok (.iconst 1, 1) := by decide +kernel
theorem d_Law_1181 : decode code 1181 = .ok (.iadd, 1) := by decide +kernel
theorem d_Law_1182 : decode code 1182 = .ok (.iaload, 1) := by decide +kernel
theorem d_Law_1183 : decode code 1183 = .ok (.invokevirtual 140, 3) := by decide +kernel
theorem d_Law_1186 : decode code 1186 = .ok (.if_icmp .eq 594, 3) := by decide +kernel
theorem d_Law_1189 : decode code 1189 = .ok (.iconst 0, 1) := by decide +kernel
theorem d_Law_1190 : decode code 1190 = .ok (.ireturn, 1) := by decide +kernel
theorem d_Law_1191 : decode code 1191 = .ok (.aload_n 1, 1) := by decide +kernel
theorem d_Law_1192 : decode code 1192 = .ok (.aload_n 0, 1) := by decide +kernel
theorem d_Law_1193 : decode code 1193 = .ok (.iload_n 3, 1) := by decide +kernel
theorem d_Law_1194 : decode code 1194 = .ok (.iconst 1, 1) := by decide +kernel
theorem d_Law_1195 : decode code 1195 = .ok (.iadd, 1) := by decide +kernel
theorem d_Law_1196 : decode code 1196 = .ok (.iaload, 1) := by decide +kernel
theorem d_Law_1197 : decode code 1197 = .ok (.invokevirtual 141, 3) := by decide +kernel
theorem d_Law_1200 : decode code 1200 = .ok (.aload_n 2, 1) := by decide +kernel
theorem d_Law_1201 : decode code 1201 = .ok (.aload_n 0, 1) := by decide +kernel
theorem d_Law_1202 : decode code 1202 = .ok (.iload_n 3, 1) := by decide +kernel
theorem d_Law_1203 : decode code 1203 = .ok (.iconst 1, 1) := by decide +kernel
theorem d_Law_1204 : decode code 1204 = .ok (.iadd, 1) := by decide +kernel
theorem d_Law_1205 : decode code 1205 = .ok (.iaload, 1) := by decide +kernel
theorem d_Law_1206 : decode code 1206 = .ok (.invokevirtual 144, 3) := by decide +kernel
theorem d_Law_1209 : decode code 1209 = .ok (.if_icmp .eq 571, 3) := by decide +kernel
theorem d_Law_1212 : decode code 1212 = .ok (.iconst 0, 1) := by decide +kernel
theorem d_Law_1213 : decode code 1213 = .ok (.ireturn, 1) := by decide +kernel
theorem d_Law_1214 : decode code 1214 = .ok (.aload_n 1, 1) := by decide +kernel
theorem d_Law_1215 : decode code 1215 = .ok (.aload_n 0, 1) := by decide +kernel
theorem d_Law_1216 : decode code 1216 = .ok (.iload_n 3, 1) := by decide +kernel
theorem d_Law_1217 : decode code 1217 = .ok (.iconst 1, 1) := by decide +kernel
theorem d_Law_1218 : decode code 1218 = .ok (.iadd, 1) := by decide +kernel
theorem d_Law_1219 : decode code 1219 = .ok (.iaload, 1) := by decide +kernel
theorem d_Law_1220 : decode code 1220 = .ok (.invokevirtual 145, 3) := by decide +kernel
theorem d_Law_1223 : decode code 1223 = .ok (.aload_n 2, 1) := by decide +kernel
theorem d_Law_1224 : decode code 1224 = .ok (.aload_n 0, 1) := by decide +kernel
theorem d_Law_1225 : decode code 1225 = .ok (.iload_n 3, 1) := by decide +kernel
theorem d_Law_1226 : decode code 1226 = .ok (.iconst 1, 1) := by decide +kernel
theorem d_Law_1227 : decode code 1227 = .ok (.iadd, 1) := by decide +kernel
theorem d_Law_1228 : decode code 1228 = .ok (.iaload, 1) := by decide +kernel
theorem d_Law_1229 : decode code 1229 = .ok (.invokevirtual 148, 3) := by decide +kernel
theorem d_Law_1232 : decode code 1232 = .ok (.if_icmp .eq 548, 3) := by decide +kernel
theorem d_Law_1235 : decode code 1235 = .ok (.iconst 0, 1) := by decide +kernel
theorem d_Law_1236 : decode code 1236 = .ok (.ireturn, 1) := by decide +kernel
theorem d_Law_1237 : decode code 1237 = .ok (.aload_n 1, 1) := by decide +kernel
theorem d_Law_1238 : decode code 1238 = .ok (.aload_n 0, 1) := by decide +kernel
theorem d_Law_1239 : decode code 1239 = .ok (.iload_n 3, 1) := by decide +kernel
theorem d_Law_1240 : decode code 1240 = .ok (.iconst 1, 1) := by decide +kernel
theorem d_Law_1241 : decode code 1241 = .ok (.iadd, 1) := by decide +kernel
theorem d_Law_1242 : decode code 1242 = .ok (.iaload, 1) := by decide +kernel
theorem d_Law_1243 : decode code 1243 = .ok (.aload_n 0, 1) := by decide +kernel
theorem d_Law_1244 : decode code 1244 = .ok (.iload_n 3, 1) := by decide +kernel
theorem d_Law_1245 : decode code 1245 = .ok (.iconst 2, 1) := by decide +kernel
theorem d_Law_1246 : decode code 1246 = .ok (.iadd, 1) := by decide +kernel
theorem d_Law_1247 : decode code 1247 = .ok (.iaload, 1) := by decide +kernel
theorem d_Law_1248 : decode code 1248 = .ok (.invokevirtual 149, 3) := by decide +kernel
theorem d_Law_1251 : decode code 1251 = .ok (.aload_n 2, 1) := by decide +kernel
theorem d_Law_1252 : decode code 1252 = .ok (.aload_n 0, 1) := by decide +kernel
theorem d_Law_1253 : decode code 1253 = .ok (.iload_n 3, 1) := by decide +kernel
theorem d_Law_1254 : decode code 1254 = .ok (.iconst 1, 1) := by decide +kernel
theorem d_Law_1255 : decode code 1255 = .ok (.iadd, 1) := by decide +kernel
theorem d_Law_1256 : decode code 1256 = .ok (.iaload, 1) := by decide +kernel
theorem d_Law_1257 : decode code 1257 = .ok (.aload_n 0, 1) := by decide +kernel
theorem d_Law_1258 : decode code 1258 = .ok (.iload_n 3, 1) := by decide +kernel
theorem d_Law_1259 : decode code 1259 = .ok (.iconst 2, 1) := by decide +kernel
theorem d_Law_1260 : decode code 1260 = .ok (.iadd, 1) := by decide +kernel
theorem d_Law_1261 : decode code 1261 = .ok (.iaload, 1) := by decide +kernel
theorem d_Law_1262 : decode code 1262 = .ok (.invokevirtual 152, 3) := by decide +kernel
theorem d_Law_1265 : decode code 1265 = .ok (.if_icmp .eq 515, 3) := by decide +kernel
theorem d_Law_1268 : decode code 1268 = .ok (.iconst 0, 1) := by decide +kernel
theorem d_Law_1269 : decode code 1269 = .ok (.ireturn, 1) := by decide +kernel
theorem d_Law_1270 : decode code 1270 = .ok (.aload_n 1, 1) := by decide +kernel
theorem d_Law_1271 : decode code 1271 = .ok (.aload_n 0, 1) := by decide +kernel
theorem d_Law_1272 : decode code 1272 = .ok (.iload_n 3, 1) := by decide +kernel
theorem d_Law_1273 : decode code 1273 = .ok (.iconst 1, 1) := by decide +kernel
theorem d_Law_1274 : decode code 1274 = .ok (.iadd, 1) := by decide +kernel
theorem d_Law_1275 : decode code 1275 = .ok (.iaload, 1) := by decide +kernel
theorem d_Law_1276 : decode code 1276 = .ok (.invokevirtual 153, 3) := by decide +kernel
theorem d_Law_1279 : decode code 1279 = .ok (.aload_n 2, 1) := by decide +kernel
theorem d_Law_1280 : decode code 1280 = .ok (.aload_n 0, 1) := by decide +kernel
theorem d_Law_1281 : decode code 1281 = .ok (.iload_n 3, 1) := by decide +kernel
theorem d_Law_1282 : decode code 1282 = .ok (.iconst 1, 1) := by decide +kernel
theorem d_Law_1283 : decode code 1283 = .ok (.iadd, 1) := by decide +kernel
theorem d_Law_1284 : decode code 1284 = .ok (.iaload, 1) := by decide +kernel
theorem d_Law_1285 : decode code 1285 = .ok (.invokevirtual 156, 3) := by decide +kernel
theorem d_Law_1288 : decode code 1288 = .ok (.if_icmp .eq 492, 3) := by decide +kernel
theorem d_Law_1291 : decode code 1291 = .ok (.iconst 0, 1) := by decide +kernel
theorem d_Law_1292 : decode code 1292 = .ok (.ireturn, 1) := by decide +kernel
theorem d_Law_1293 : decode code 1293 = .ok (.aload_n 1, 1) := by decide +kernel
theorem d_Law_1294 : decode code 1294 = .ok (.aload_n 0, 1) := by decide +kernel
theorem d_Law_1295 : decode code 1295 = .ok (.iload_n 3, 1) := by decide +kernel
theorem d_Law_1296 : decode code 1296 = .ok (.iconst 1, 1) := by decide +kernel
theorem d_Law_1297 : decode code 1297 = .ok (.iadd, 1) := by decide +kernel
theorem d_Law_1298 : decode code 1298 = .ok (.iaload, 1) := by decide +kernel
theorem d_Law_1299 : decode code 1299 = .ok (.invokevirtual 157, 3) := by decide +kernel
theorem d_Law_1302 : decode code 1302 = .ok (.aload_n 2, 1) := by decide +kernel
theorem d_Law_1303 : decode code 1303 = .ok (.aload_n 0, 1) := by decide +kernel
theorem d_Law_1304 : decode code 1304 = .ok (.iload_n 3, 1) := by decide +kernel
theorem d_Law_1305 : decode code 1305 = .ok (.iconst 1, 1) := by decide +kernel
theorem d_Law_1306 : decode code 1306 = .ok (.iadd, 1) := by decide +kernel
theorem d_Law_1307 : decode code 1307 = .ok (.iaload, 1) := by decide +kernel
theorem d_Law_1308 : decode code 1308 = .ok (.invokevirtual 160, 3) := by decide +kernel
theorem d_Law_1311 : decode code 1311 = .ok (.if_icmp .eq 469, 3) := by decide +kernel
theorem d_Law_1314 : decode code 1314 = .ok (.iconst 0, 1) := by decide +kernel
theorem d_Law_1315 : decode code 1315 = .ok (.ireturn, 1) := by decide +kernel
theorem d_Law_1316 : decode code 1316 = .ok (.aload_n 1, 1) := by decide +kernel
theorem d_Law_1317 : decode code 1317 = .ok (.aload_n 0, 1) := by decide +kernel
theorem d_Law_1318 : decode code 1318 = .ok (.iload_n 3, 1) := by decide +kernel
theorem d_Law_1319 : decode code 1319 = .ok (.iconst 1, 1) := by decide +kernel
theorem d_Law_1320 : decode code 1320 = .ok (.iadd, 1) := by decide +kernel
theorem d_Law_1321 : decode code 1321 = .ok (.iaload, 1) := by decide +kernel
theorem d_Law_1322 : decode code 1322 = .ok (.aload_n 0, 1) := by decide +kernel
theorem d_Law_1323 : decode code 1323 = .ok (.iload_n 3, 1) := by decide +kernel
theorem d_Law_1324 : decode code 1324 = .ok (.iconst 2, 1) := by decide +kernel
theorem d_Law_1325 : decode code 1325 = .ok (.iadd, 1) := by decide +kernel
theorem d_Law_1326 : decode code 1326 = .ok (.iaload, 1) := by decide +kernel
theorem d_Law_1327 : decode code 1327 = .ok (.invokevirtual 161, 3) := by decide +kernel
theorem d_Law_1330 : decode code 1330 = .ok (.aload_n 2, 1) := by decide +kernel
theorem d_Law_1331 : decode code 1331 = .ok (.aload_n 0, 1) := by decide +kernel
theorem d_Law_1332 : decode code 1332 = .ok (.iload_n 3, 1) := by decide +kernel
theorem d_Law_1333 : decode code 1333 = .ok (.iconst 1, 1) := by decide +kernel
theorem d_Law_1334 : decode code 1334 = .ok (.iadd, 1) := by decide +kernel
theorem d_Law_1335 : decode code 1335 = .ok (.iaload, 1) := by decide +kernel
theorem d_Law_1336 : decode code 1336 = .ok (.aload_n 0, 1) := by decide +kernel
theorem d_Law_1337 : decode code 1337 = .ok (.iload_n 3, 1) := by decide +kernel
theorem d_Law_1338 : decode code 1338 = .ok (.iconst 2, 1) := by decide +kernel
theorem d_Law_1339 : decode code 1339 = .ok (.iadd, 1) := by decide +kernel
theorem d_Law_1340 : decode code 1340 = .ok (.iaload, 1) := by decide +kernel
theorem d_Law_1341 : decode code 1341 = .ok (.invokevirtual 164, 3) := by decide +kernel
theorem d_Law_1344 : decode code 1344 = .ok (.if_icmp .eq 436, 3) := by decide +kernel
theorem d_Law_1347 : decode code 1347 = .ok (.iconst 0, 1) := by decide +kernel
theorem d_Law_1348 : decode code 1348 = .ok (.ireturn, 1) := by decide +kernel
theorem d_Law_1349 : decode code 1349 = .ok (.aload_n 1, 1) := by decide +kernel
theorem d_Law_1350 : decode code 1350 = .ok (.invokevirtual 165, 3) := by decide +kernel
theorem d_Law_1353 : decode code 1353 = .ok (.aload_n 2, 1) := by decide +kernel
theorem d_Law_1354 : decode code 1354 = .ok (.invokevirtual 168, 3) := by decide +kernel
theorem d_Law_1357 : decode code 1357 = .ok (.if_icmp .eq 423, 3) := by decide +kernel
theorem d_Law_1360 : decode code 1360 = .ok (.iconst 0, 1) := by decide +kernel
theorem d_Law_1361 : decode code 1361 = .ok (.ireturn, 1) := by decide +kernel
theorem d_Law_1362 : decode code 1362 = .ok (.aload_n 1, 1) := by decide +kernel
theorem d_Law_1363 : decode code 1363 = .ok (.invokevirtual 169, 3) := by decide +kernel
theorem d_Law_1366 : decode code 1366 = .ok (.aload_n 2, 1) := by decide +kernel
theorem d_Law_1367 : decode code 1367 = .ok (.invokevirtual 172, 3) := by decide +kernel
theorem d_Law_1370 : decode code 1370 = .ok (.if_icmp .eq 410, 3) := by decide +kernel
theorem d_Law_1373 : decode code 1373 = .ok (.iconst 0, 1) := by decide +kernel
theorem d_Law_1374 : decode code 1374 = .ok (.ireturn, 1) := by decide +kernel
theorem d_Law_1375 : decode code 1375 = .ok (.aload_n 1, 1) := by decide +kernel
theorem d_Law_1376 : decode code 1376 = .ok (.invokevirtual 173, 3) := by decide +kernel
theorem d_Law_1379 : decode code 1379 = .ok (.aload_n 2, 1) := by decide +kernel
theorem d_Law_1380 : decode code 1380 = .ok (.invokevirtual 176, 3) := by decide +kernel
theorem d_Law_1383 : decode code 1383 = .ok (.if_icmp .eq 397, 3) := by decide +kernel
theorem d_Law_1386 : decode code 1386 = .ok (.iconst 0, 1) := by decide +kernel
theorem d_Law_1387 : decode code 1387 = .ok (.ireturn, 1) := by decide +kernel
theorem d_Law_1388 : decode code 1388 = .ok (.aload_n 1, 1) := by decide +kernel
theorem d_Law_1389 : decode code 1389 = .ok (.invokevirtual 177, 3) := by decide +kernel
theorem d_Law_1392 : decode code 1392 = .ok (.aload_n 2, 1) := by decide +kernel
theorem d_Law_1393 : decode code 1393 = .ok (.invokevirtual 180, 3) := by decide +kernel
theorem d_Law_1396 : decode code 1396 = .ok (.if_icmp .eq 384, 3) := by decide +kernel
theorem d_Law_1399 : decode code 1399 = .ok (.iconst 0, 1) := by decide +kernel
theorem d_Law_1400 : decode code 1400 = .ok (.ireturn, 1) := by decide +kernel
theorem d_Law_1401 : decode code 1401 = .ok (.aload_n 1, 1) := by decide +kernel
theorem d_Law_1402 : decode code 1402 = .ok (.aload_n 0, 1) := by decide +kernel
theorem d_Law_1403 : decode code 1403 = .ok (.iload_n 3, 1) := by decide +kernel
theorem d_Law_1404 : decode code 1404 = .ok (.iconst 1, 1) := by decide +kernel
theorem d_Law_1405 : decode code 1405 = .ok (.iadd, 1) := by decide +kernel
theorem d_Law_1406 : decode code 1406 = .ok (.iaload, 1) := by decide +kernel
theorem d_Law_1407 : decode code 1407 = .ok (.invokevirtual 181, 3) := by decide +kernel
theorem d_Law_1410 : decode code 1410 = .ok (.aload_n 2, 1) := by decide +kernel
theorem d_Law_1411 : decode code 1411 = .ok (.aload_n 0, 1) := by decide +kernel
theorem d_Law_1412 : decode code 1412 = .ok (.iload_n 3, 1) := by decide +kernel
theorem d_Law_1413 : decode code 1413 = .ok (.iconst 1, 1) := by decide +kernel
theorem d_Law_1414 : decode code 1414 = .ok (.iadd, 1) := by decide +kernel
theorem d_Law_1415 : decode code 1415 = .ok (.iaload, 1) := by decide +kernel
theorem d_Law_1416 : decode code 1416 = .ok (.invokevirtual 184, 3) := by decide +kernel
theorem d_Law_1419 : decode code 1419 = .ok (.if_icmp .eq 361, 3) := by decide +kernel
theorem d_Law_1422 : decode code 1422 = .ok (.iconst 0, 1) := by decide +kernel
theorem d_Law_1423 : decode code 1423 = .ok (.ireturn, 1) := by decide +kernel
theorem d_Law_1424 : decode code 1424 = .ok (.aload_n 1, 1) := by decide +kernel
theorem d_Law_1425 : decode code 1425 = .ok (.aload_n 0, 1) := by decide +kernel
theorem d_Law_1426 : decode code 1426 = .ok (.iload_n 3, 1) := by decide +kernel
theorem d_Law_1427 : decode code 1427 = .ok (.iconst 1, 1) := by decide +kernel
theorem d_Law_1428 : decode code 1428 = .ok (.iadd, 1) := by decide +kernel
theorem d_Law_1429 : decode code 1429 = .ok (.iaload, 1) := by decide +kernel
theorem d_Law_1430 : decode code 1430 = .ok (.aload_n 0, 1) := by decide +kernel
theorem d_Law_1431 : decode code 1431 = .ok (.iload_n 3, 1) := by decide +kernel
theorem d_Law_1432 : decode code 1432 = .ok (.iconst 2, 1) := by decide +kernel
theorem d_Law_1433 : decode code 1433 = .ok (.iadd, 1) := by decide +kernel
theorem d_Law_1434 : decode code 1434 = .ok (.iaload, 1) := by decide +kernel
theorem d_Law_1435 : decode code 1435 = .ok (.invokevirtual 185, 3) := by decide +kernel
theorem d_Law_1438 : decode code 1438 = .ok (.aload_n 2, 1) := by decide +kernel
theorem d_Law_1439 : decode code 1439 = .ok (.aload_n 0, 1) := by decide +kernel
theorem d_Law_1440 : decode code 1440 = .ok (.iload_n 3, 1) := by decide +kernel
theorem d_Law_1441 : decode code 1441 = .ok (.iconst 1, 1) := by decide +kernel
theorem d_Law_1442 : decode code 1442 = .ok (.iadd, 1) := by decide +kernel
theorem d_Law_1443 : decode code 1443 = .ok (.iaload, 1) := by decide +kernel
theorem d_Law_1444 : decode code 1444 = .ok (.aload_n 0, 1) := by decide +kernel
theorem d_Law_1445 : decode code 1445 = .ok (.iload_n 3, 1) := by decide +kernel
theorem d_Law_1446 : decode code 1446 = .ok (.iconst 2, 1) := by decide +kernel
theorem d_Law_1447 : decode code 1447 = .ok (.iadd, 1) := by decide +kernel
theorem d_Law_1448 : decode code 1448 = .ok (.iaload, 1) := by decide +kernel
theorem d_Law_1449 : decode code 1449 = .ok (.invokevirtual 188, 3) := by decide +kernel
theorem d_Law_1452 : decode code 1452 = .ok (.if_icmp .eq 328, 3) := by decide +kernel
theorem d_Law_1455 : decode code 1455 = .ok (.iconst 0, 1) := by decide +kernel
theorem d_Law_1456 : decode code 1456 = .ok (.ireturn, 1) := by decide +kernel
theorem d_Law_1457 : decode code 1457 = .ok (.aload_n 1, 1) := by decide +kernel
theorem d_Law_1458 : decode code 1458 = .ok (.aload_n 0, 1) := by decide +kernel
theorem d_Law_1459 : decode code 1459 = .ok (.iload_n 3, 1) := by decide +kernel
theorem d_Law_1460 : decode code 1460 = .ok (.iconst 1, 1) := by decide +kernel
theorem d_Law_1461 : decode code 1461 = .ok (.iadd, 1) := by decide +kernel
theorem d_Law_1462 : decode code 1462 = .ok (.iaload, 1) := by decide +kernel
theorem d_Law_1463 : decode code 1463 = .ok (.aload_n 0, 1) := by decide +kernel
theorem d_Law_1464 : decode code 1464 = .ok (.iload_n 3, 1) := by decide +kernel
theorem d_Law_1465 : decode code 1465 = .ok (.iconst 2, 1) := by decide +kernel
theorem d_Law_1466 : decode code 1466 = .ok (.iadd, 1) := by decide +kernel
theorem d_Law_1467 : decode code 1467 = .ok (.iaload, 1) := by decide +kernel
theorem d_Law_1468 : decode code 1468 = .ok (.invokevirtual 189, 3) := by decide +kernel
theorem d_Law_1471 : decode code 1471 = .ok (.aload_n 2, 1) := by decide +kernel
theorem d_Law_1472 : decode code 1472 = .ok (.aload_n 0, 1) := by decide +kernel
theorem d_Law_1473 : decode code 1473 = .ok (.iload_n 3, 1) := by decide +kernel
theorem d_Law_1474 : decode code 1474 = .ok (.iconst 1, 1) := by decide +kernel
theorem d_Law_1475 : decode code 1475 = .ok (.iadd, 1) := by decide +kernel
theorem d_Law_1476 : decode code 1476 = .ok (.iaload, 1) := by decide +kernel
theorem d_Law_1477 : decode code 1477 = .ok (.aload_n 0, 1) := by decide +kernel
theorem d_Law_1478 : decode code 1478 = .ok (.iload_n 3, 1) := by decide +kernel
theorem d_Law_1479 : decode code 1479 = .ok (.iconst 2, 1) := by decide +kernel
theorem d_Law_1480 : decode code 1480 = .ok (.iadd, 1) := by decide +kernel
theorem d_Law_1481 : decode code 1481 = .ok (.iaload, 1) := by decide +kernel
theorem d_Law_1482 : decode code 1482 = .ok (.invokevirtual 192, 3) := by decide +kernel
theorem d_Law_1485 : decode code 1485 = .ok (.if_icmp .eq 295, 3) := by decide +kernel
theorem d_Law_1488 : decode code 1488 = .ok (.iconst 0, 1) := by decide +kernel
theorem d_Law_1489 : decode code 1489 = .ok (.ireturn, 1) := by decide +kernel
theorem d_Law_1490 : decode code 1490 = .ok (.aload_n 1, 1) := by decide +kernel
theorem d_Law_1491 : decode code 1491 = .ok (.aload_n 0, 1) := by decide +kernel
theorem d_Law_1492 : decode code 1492 = .ok (.iload_n 3, 1) := by decide +kernel
theorem d_Law_1493 : decode code 1493 = .ok (.iconst 1, 1) := by decide +kernel
theorem d_Law_1494 : decode code 1494 = .ok (.iadd, 1) := by decide +kernel
theorem d_Law_1495 : decode code 1495 = .ok (.iaload, 1) := by decide +kernel
theorem d_Law_1496 : decode code 1496 = .ok (.aload_n 0, 1) := by decide +kernel
theorem d_Law_1497 : decode code 1497 = .ok (.iload_n 3, 1) := by decide +kernel
theorem d_Law_1498 : decode code 1498 = .ok (.iconst 2, 1) := by decide +kernel
theorem d_Law_1499 : decode code 1499 = .ok (.iadd, 1) := by decide +kernel
theorem d_Law_1500 : decode code 1500 = .ok (.iaload, 1) := by decide +kernel
theorem d_Law_1501 : decode code 1501 = .ok (.invokevirtual 193, 3) := by decide +kernel
theorem d_Law_1504 : decode code 1504 = .ok (.aload_n 2, 1) := by decide +kernel
theorem d_Law_1505 : decode code 1505 = .ok (.aload_n 0, 1) := by decide +kernel
theorem d_Law_1506 : decode code 1506 = .ok (.iload_n 3, 1) := by decide +kernel
theorem d_Law_1507 : decode code 1507 = .ok (.iconst 1, 1) := by decide +kernel
theorem d_Law_1508 : decode code 1508 = .ok (.iadd, 1) := by decide +kernel
theorem d_Law_1509 : decode code 1509 = .ok (.iaload, 1) := by decide +kernel
theorem d_Law_1510 : decode code 1510 = .ok (.aload_n 0, 1) := by decide +kernel
theorem d_Law_1511 : decode code 1511 = .ok (.iload_n 3, 1) := by decide +kernel
theorem d_Law_1512 : decode code 1512 = .ok (.iconst 2, 1) := by decide +kernel
theorem d_Law_1513 : decode code 1513 = .ok (.iadd, 1) := by decide +kernel
theorem d_Law_1514 : decode code 1514 = .ok (.iaload, 1) := by decide +kernel
theorem d_Law_1515 : decode code 1515 = .ok (.invokevirtual 196, 3) := by decide +kernel
theorem d_Law_1518 : decode code 1518 = .ok (.if_icmp .eq 262, 3) := by decide +kernel
theorem d_Law_1521 : decode code 1521 = .ok (.iconst 0, 1) := by decide +kernel
theorem d_Law_1522 : decode code 1522 = .ok (.ireturn, 1) := by decide +kernel
theorem d_Law_1523 : decode code 1523 = .ok (.aload_n 1, 1) := by decide +kernel
theorem d_Law_1524 : decode code 1524 = .ok (.aload_n 0, 1) := by decide +kernel
theorem d_Law_1525 : decode code 1525 = .ok (.iload_n 3, 1) := by decide +kernel
theorem d_Law_1526 : decode code 1526 = .ok (.iconst 1, 1) := by decide +kernel
theorem d_Law_1527 : decode code 1527 = .ok (.iadd, 1) := by decide +kernel
theorem d_Law_1528 : decode code 1528 = .ok (.iaload, 1) := by decide +kernel
theorem d_Law_1529 : decode code 1529 = .ok (.aload_n 0, 1) := by decide +kernel
theorem d_Law_1530 : decode code 1530 = .ok (.iload_n 3, 1) := by decide +kernel
theorem d_Law_1531 : decode code 1531 = .ok (.iconst 2, 1) := by decide +kernel
theorem d_Law_1532 : decode code 1532 = .ok (.iadd, 1) := by decide +kernel
theorem d_Law_1533 : decode code 1533 = .ok (.iaload, 1) := by decide +kernel
theorem d_Law_1534 : decode code 1534 = .ok (.aload_n 0, 1) := by decide +kernel
theorem d_Law_1535 : decode code 1535 = .ok (.iload_n 3, 1) := by decide +kernel
theorem d_Law_1536 : decode code 1536 = .ok (.iconst 3, 1) := by decide +kernel
theorem d_Law_1537 : decode code 1537 = .ok (.iadd, 1) := by decide +kernel
theorem d_Law_1538 : decode code 1538 = .ok (.iaload, 1) := by decide +kernel
theorem d_Law_1539 : decode code 1539 = .ok (.invokevirtual 197, 3) := by decide +kernel
theorem d_Law_1542 : decode code 1542 = .ok (.aload_n 2, 1) := by decide +kernel
theorem d_Law_1543 : decode code 1543 = .ok (.aload_n 0, 1) := by decide +kernel
theorem d_Law_1544 : decode code 1544 = .ok (.iload_n 3, 1) := by decide +kernel
theorem d_Law_1545 : decode code 1545 = .ok (.iconst 1, 1) := by decide +kernel
theorem d_Law_1546 : decode code 1546 = .ok (.iadd, 1) := by decide +kernel
theorem d_Law_1547 : decode code 1547 = .ok (.iaload, 1) := by decide +kernel
theorem d_Law_1548 : decode code 1548 = .ok (.aload_n 0, 1) := by decide +kernel
theorem d_Law_1549 : decode code 1549 = .ok (.iload_n 3, 1) := by decide +kernel
theorem d_Law_1550 : decode code 1550 = .ok (.iconst 2, 1) := by decide +kernel
theorem d_Law_1551 : decode code 1551 = .ok (.iadd, 1) := by decide +kernel
theorem d_Law_1552 : decode code 1552 = .ok (.iaload, 1) := by decide +kernel
theorem d_Law_1553 : decode code 1553 = .ok (.aload_n 0, 1) := by decide +kernel
theorem d_Law_1554 : decode code 1554 = .ok (.iload_n 3, 1) := by decide +kernel
theorem d_Law_1555 : decode code 1555 = .ok (.iconst 3, 1) := by decide +kernel
theorem d_Law_1556 : decode code 1556 = .ok (.iadd, 1) := by decide +kernel
theorem d_Law_1557 : decode code 1557 = .ok (.iaload, 1) := by decide +kernel
theorem d_Law_1558 : decode code 1558 = .ok (.invokevirtual 200, 3) := by decide +kernel
theorem d_Law_1561 : decode code 1561 = .ok (.if_icmp .eq 219, 3) := by decide +kernel
theorem d_Law_1564 : decode code 1564 = .ok (.iconst 0, 1) := by decide +kernel
theorem d_Law_1565 : decode code 1565 = .ok (.ireturn, 1) := by decide +kernel
theorem d_Law_1566 : decode code 1566 = .ok (.aload_n 1, 1) := by decide +kernel
theorem d_Law_1567 : decode code 1567 = .ok (.aload_n 0, 1) := by decide +kernel
theorem d_Law_1568 : decode code 1568 = .ok (.iload_n 3, 1) := by decide +kernel
theorem d_Law_1569 : decode code 1569 = .ok (.iconst 1, 1) := by decide +kernel
theorem d_Law_1570 : decode code 1570 = .ok (.iadd, 1) := by decide +kernel
theorem d_Law_1571 : decode code 1571 = .ok (.iaload, 1) := by decide +kernel
theorem d_Law_1572 : decode code 1572 = .ok (.aload_n 0, 1) := by decide +kernel
theorem d_Law_1573 : decode code 1573 = .ok (.iload_n 3, 1) := by decide +kernel
theorem d_Law_1574 : decode code 1574 = .ok (.iconst 2, 1) := by decide +kernel
theorem d_Law_1575 : decode code 1575 = .ok (.iadd, 1) := by decide +kernel
theorem d_Law_1576 : decode code 1576 = .ok (.iaload, 1) := by decide +kernel
theorem d_Law_1577 : decode code 1577 = .ok (.aload_n 0, 1) := by decide +kernel
theorem d_Law_1578 : decode code 1578 = .ok (.iload_n 3, 1) := by decide +kernel
theorem d_Law_1579 : decode code 1579 = .ok (.iconst 3, 1) := by decide +kernel
theorem d_Law_1580 : decode code 1580 = .ok (.iadd, 1) := by decide +kernel
theorem d_Law_1581 : decode code 1581 = .ok (.iaload, 1) := by decide +kernel
theorem d_Law_1582 : decode code 1582 = .ok (.aload_n 0, 1) := by decide +kernel
theorem d_Law_1583 : decode code 1583 = .ok (.iload_n 3, 1) := by decide +kernel
theorem d_Law_1584 : decode code 1584 = .ok (.iconst 4, 1) := by decide +kernel
theorem d_Law_1585 : decode code 1585 = .ok (.iadd, 1) := by decide +kernel
theorem d_Law_1586 : decode code 1586 = .ok (.iaload, 1) := by decide +kernel
theorem d_Law_1587 : decode code 1587 = .ok (.invokevirtual 201, 3) := by decide +kernel
theorem d_Law_1590 : decode code 1590 = .ok (.aload_n 2, 1) := by decide +kernel
theorem d_Law_1591 : decode code 1591 = .ok (.aload_n 0, 1) := by decide +kernel
theorem d_Law_1592 : decode code 1592 = .ok (.iload_n 3, 1) := by decide +kernel
theorem d_Law_1593 : decode code 1593 = .ok (.iconst 1, 1) := by decide +kernel
theorem d_Law_1594 : decode code 1594 = .ok (.iadd, 1) := by decide +kernel
theorem d_Law_1595 : decode code 1595 = .ok (.iaload, 1) := by decide +kernel
theorem d_Law_1596 : decode code 1596 = .ok (.aload_n 0, 1) := by decide +kernel
theorem d_Law_1597 : decode code 1597 = .ok (.iload_n 3, 1) := by decide +kernel
theorem d_Law_1598 : decode code 1598 = .ok (.iconst 2, 1) := by decide +kernel
theorem d_Law_1599 : decode code 1599 = .ok (.iadd, 1) := by decide +kernel
theorem d_Law_1600 : decode code 1600 = .ok (.iaload, 1) := by decide +kernel
theorem d_Law_1601 : decode code 1601 = .ok (.aload_n 0, 1) := by decide +kernel
theorem d_Law_1602 : decode code 1602 = .ok (.iload_n 3, 1) := by decide +kernel
theorem d_Law_1603 : decode code 1603 = .ok (.iconst 3, 1) := by decide +kernel
theorem d_Law_1604 : decode code 1604 = .ok (.iadd, 1) := by decide +kernel
theorem d_Law_1605 : decode code 1605 = .ok (.iaload, 1) := by decide +kernel
theorem d_Law_1606 : decode code 1606 = .ok (.aload_n 0, 1) := by decide +kernel
theorem d_Law_1607 : decode code 1607 = .ok (.iload_n 3, 1) := by decide +kernel
theorem d_Law_1608 : decode code 1608 = .ok (.iconst 4, 1) := by decide +kernel
theorem d_Law_1609 : decode code 1609 = .ok (.iadd, 1) := by decide +kernel
theorem d_Law_1610 : decode code 1610 = .ok (.iaload, 1) := by decide +kernel
theorem d_Law_1611 : decode code 1611 = .ok (.invokevirtual 205, 3) := by decide +kernel
theorem d_Law_1614 : decode code 1614 = .ok (.if_icmp .eq 166, 3) := by decide +kernel
theorem d_Law_1617 : decode code 1617 = .ok (.iconst 0, 1) := by decide +kernel
theorem d_Law_1618 : decode code 1618 = .ok (.ireturn, 1) := by decide +kernel
theorem d_Law_1619 : decode code 1619 = .ok (.aload_n 1, 1) := by decide +kernel
theorem d_Law_1620 : decode code 1620 = .ok (.aload_n 0, 1) := by decide +kernel
theorem d_Law_1621 : decode code 1621 = .ok (.iload_n 3, 1) := by decide +kernel
theorem d_Law_1622 : decode code 1622 = .ok (.iconst 1, 1) := by decide +kernel
theorem d_Law_1623 : decode code 1623 = .ok (.iadd, 1) := by decide +kernel
theorem d_Law_1624 : decode code 1624 = .ok (.iaload, 1) := by decide +kernel
theorem d_Law_1625 : decode code 1625 = .ok (.aload_n 0, 1) := by decide +kernel
theorem d_Law_1626 : decode code 1626 = .ok (.iload_n 3, 1) := by decide +kernel
theorem d_Law_1627 : decode code 1627 = .ok (.iconst 2, 1) := by decide +kernel
theorem d_Law_1628 : decode code 1628 = .ok (.iadd, 1) := by decide +kernel
theorem d_Law_1629 : decode code 1629 = .ok (.iaload, 1) := by decide +kernel
theorem d_Law_1630 : decode code 1630 = .ok (.invokevirtual 206, 3) := by decide +kernel
theorem d_Law_1633 : decode code 1633 = .ok (.aload_n 2, 1) := by decide +kernel
theorem d_Law_1634 : decode code 1634 = .ok (.aload_n 0, 1) := by decide +kernel
theorem d_Law_1635 : decode code 1635 = .ok (.iload_n 3, 1) := by decide +kernel
theorem d_Law_1636 : decode code 1636 = .ok (.iconst 1, 1) := by decide +kernel
theorem d_Law_1637 : decode code 1637 = .ok (.iadd, 1) := by decide +kernel
theorem d_Law_1638 : decode code 1638 = .ok (.iaload, 1) := by decide +kernel
theorem d_Law_1639 : decode code 1639 = .ok (.aload_n 0, 1) := by decide +kernel
theorem d_Law_1640 : decode code 1640 = .ok (.iload_n 3, 1) := by decide +kernel
theorem d_Law_1641 : decode code 1641 = .ok (.iconst 2, 1) := by decide +kernel
theorem d_Law_1642 : decode code 1642 = .ok (.iadd, 1) := by decide +kernel
theorem d_Law_1643 : decode code 1643 = .ok (.iaload, 1) := by decide +kernel
theorem d_Law_1644 : decode code 1644 = .ok (.invokevirtual 209, 3) := by decide +kernel
theorem d_Law_1647 : decode code 1647 = .ok (.if_icmp .eq 133, 3) := by decide +kernel
theorem d_Law_1650 : decode code 1650 = .ok (.iconst 0, 1) := by decide +kernel
theorem d_Law_1651 : decode code 1651 = .ok (.ireturn, 1) := by decide +kernel
theorem d_Law_1652 : decode code 1652 = .ok (.aload_n 1, 1) := by decide +kernel
theorem d_Law_1653 : decode code 1653 = .ok (.aload_n 0, 1) := by decide +kernel
theorem d_Law_1654 : decode code 1654 = .ok (.iload_n 3, 1) := by decide +kernel
theorem d_Law_1655 : decode code 1655 = .ok (.iconst 1, 1) := by decide +kernel
theorem d_Law_1656 : decode code 1656 = .ok (.iadd, 1) := by decide +kernel
theorem d_Law_1657 : decode code 1657 = .ok (.iaload, 1) := by decide +kernel
theorem d_Law_1658 : decode code 1658 = .ok (.invokevirtual 210, 3) := by decide +kernel
theorem d_Law_1661 : decode code 1661 = .ok (.aload_n 2, 1) := by decide +kernel
theorem d_Law_1662 : decode code 1662 = .ok (.aload_n 0, 1) := by decide +kernel
theorem d_Law_1663 : decode code 1663 = .ok (.iload_n 3, 1) := by decide +kernel
theorem d_Law_1664 : decode code 1664 = .ok (.iconst 1, 1) := by decide +kernel
theorem d_Law_1665 : decode code 1665 = .ok (.iadd, 1) := by decide +kernel
theorem d_Law_1666 : decode code 1666 = .ok (.iaload, 1) := by decide +kernel
theorem d_Law_1667 : decode code 1667 = .ok (.invokevirtual 213, 3) := by decide +kernel
theorem d_Law_1670 : decode code 1670 = .ok (.if_icmp .eq 110, 3) := by decide +kernel
theorem d_Law_1673 : decode code 1673 = .ok (.iconst 0, 1) := by decide +kernel
theorem d_Law_1674 : decode code 1674 = .ok (.ireturn, 1) := by decide +kernel
theorem d_Law_1675 : decode code 1675 = .ok (.aload_n 1, 1) := by decide +kernel
theorem d_Law_1676 : decode code 1676 = .ok (.aload_n 0, 1) := by decide +kernel
theorem d_Law_1677 : decode code 1677 = .ok (.iload_n 3, 1) := by decide +kernel
theorem d_Law_1678 : decode code 1678 = .ok (.iconst 1, 1) := by decide +kernel
theorem d_Law_1679 : decode code 1679 = .ok (.iadd, 1) := by decide +kernel
theorem d_Law_1680 : decode code 1680 = .ok (.iaload, 1) := by decide +kernel
theorem d_Law_1681 : decode code 1681 = .ok (.invokevirtual 214, 3) := by decide +kernel
theorem d_Law_1684 : decode code 1684 = .ok (.aload_n 2, 1) := by decide +kernel
theorem d_Law_1685 : decode code 1685 = .ok (.aload_n 0, 1) := by decide +kernel
theorem d_Law_1686 : decode code 1686 = .ok (.iload_n 3, 1) := by decide +kernel
theorem d_Law_1687 : decode code 1687 = .ok (.iconst 1, 1) := by decide +kernel
theorem d_Law_1688 : decode code 1688 = .ok (.iadd, 1) := by decide +kernel
theorem d_Law_1689 : decode code 1689 = .ok (.iaload, 1) := by decide +kernel
theorem d_Law_1690 : decode code 1690 = .ok (.invokevirtual 217, 3) := by decide +kernel
theorem d_Law_1693 : decode code 1693 = .ok (.if_icmp .eq 87, 3) := by decide +kernel
theorem d_Law_1696 : decode code 1696 = .ok (.iconst 0, 1) := by decide +kernel
theorem d_Law_1697 : decode code 1697 = .ok (.ireturn, 1) := by decide +kernel
theorem d_Law_1698 : decode code 1698 = .ok (.aload_n 1, 1) := by decide +kernel
theorem d_Law_1699 : decode code 1699 = .ok (.aload_n 0, 1) := by decide +kernel
theorem d_Law_1700 : decode code 1700 = .ok (.iload_n 3, 1) := by decide +kernel
theorem d_Law_1701 : decode code 1701 = .ok (.iconst 1, 1) := by decide +kernel
theorem d_Law_1702 : decode code 1702 = .ok (.iadd, 1) := by decide +kernel
theorem d_Law_1703 : decode code 1703 = .ok (.iaload, 1) := by decide +kernel
theorem d_Law_1704 : decode code 1704 = .ok (.invokevirtual 218, 3) := by decide +kernel
theorem d_Law_1707 : decode code 1707 = .ok (.aload_n 2, 1) := by decide +kernel
theorem d_Law_1708 : decode code 1708 = .ok (.aload_n 0, 1) := by decide +kernel
theorem d_Law_1709 : decode code 1709 = .ok (.iload_n 3, 1) := by decide +kernel
theorem d_Law_1710 : decode code 1710 = .ok (.iconst 1, 1) := by decide +kernel
theorem d_Law_1711 : decode code 1711 = .ok (.iadd, 1) := by decide +kernel
theorem d_Law_1712 : decode code 1712 = .ok (.iaload, 1) := by decide +kernel
theorem d_Law_1713 : decode code 1713 = .ok (.invokevirtual 221, 3) := by decide +kernel
theorem d_Law_1716 : decode code 1716 = .ok (.if_icmp .eq 64, 3) := by decide +kernel
theorem d_Law_1719 : decode code 1719 = .ok (.iconst 0, 1) := by decide +kernel
theorem d_Law_1720 : decode code 1720 = .ok (.ireturn, 1) := by decide +kernel
theorem d_Law_1721 : decode code 1721 = .ok (.aload_n 1, 1) := by decide +kernel
theorem d_Law_1722 : decode code 1722 = .ok (.aload_n 0, 1) := by decide +kernel
theorem d_Law_1723 : decode code 1723 = .ok (.iload_n 3, 1) := by decide +kernel
theorem d_Law_1724 : decode code 1724 = .ok (.iconst 1, 1) := by decide +kernel
theorem d_Law_1725 : decode code 1725 = .ok (.iadd, 1) := by decide +kernel
theorem d_Law_1726 : decode code 1726 = .ok (.iaload, 1) := by decide +kernel
theorem d_Law_1727 : decode code 1727 = .ok (.aload_n 0, 1) := by decide +kernel
theorem d_Law_1728 : decode code 1728 = .ok (.iload_n 3, 1) := by decide +kernel
theorem d_Law_1729 : decode code 1729 = .ok (.iconst 2, 1) := by decide +kernel
theorem d_Law_1730 : decode code 1730 = .ok (.iadd, 1) := by decide +kernel
theorem d_Law_1731 : decode code 1731 = .ok (.iaload, 1) := by decide +kernel
theorem d_Law_1732 : decode code 1732 = .ok (.invokevirtual 222, 3) := by decide +kernel
theorem d_Law_1735 : decode code 1735 = .ok (.aload_n 2, 1) := by decide +kernel
theorem d_Law_1736 : decode code 1736 = .ok (.aload_n 0, 1) := by decide +kernel
theorem d_Law_1737 : decode code 1737 = .ok (.iload_n 3, 1) := by decide +kernel
theorem d_Law_1738 : decode code 1738 = .ok (.iconst 1, 1) := by decide +kernel
theorem d_Law_1739 : decode code 1739 = .ok (.iadd, 1) := by decide +kernel
theorem d_Law_1740 : decode code 1740 = .ok (.iaload, 1) := by decide +kernel
theorem d_Law_1741 : decode code 1741 = .ok (.aload_n 0, 1) := by decide +kernel
theorem d_Law_1742 : decode code 1742 = .ok (.iload_n 3, 1) := by decide +kernel
theorem d_Law_1743 : decode code 1743 = .ok (.iconst 2, 1) := by decide +kernel
theorem d_Law_1744 : decode code 1744 = .ok (.iadd, 1) := by decide +kernel
theorem d_Law_1745 : decode code 1745 = .ok (.iaload, 1) := by decide +kernel
theorem d_Law_1746 : decode code 1746 = .ok (.invokevirtual 225, 3) := by decide +kernel
theorem d_Law_1749 : decode code 1749 = .ok (.if_icmp .eq 31, 3) := by decide +kernel
theorem d_Law_1752 : decode code 1752 = .ok (.iconst 0, 1) := by decide +kernel
theorem d_Law_1753 : decode code 1753 = .ok (.ireturn, 1) := by decide +kernel
theorem d_Law_1754 : decode code 1754 = .ok (.aload_n 1, 1) := by decide +kernel
theorem d_Law_1755 : decode code 1755 = .ok (.invokevirtual 226, 3) := by decide +kernel
theorem d_Law_1758 : decode code 1758 = .ok (.aload_n 2, 1) := by decide +kernel
theorem d_Law_1759 : decode code 1759 = .ok (.invokevirtual 229, 3) := by decide +kernel
theorem d_Law_1762 : decode code 1762 = .ok (.if_icmp .eq 18, 3) := by decide +kernel
theorem d_Law_1765 : decode code 1765 = .ok (.iconst 0, 1) := by decide +kernel
theorem d_Law_1766 : decode code 1766 = .ok (.ireturn, 1) := by decide +kernel
theorem d_Law_1767 : decode code 1767 = .ok (.aload_n 1, 1) := by decide +kernel
theorem d_Law_1768 : decode code 1768 = .ok (.invokevirtual 230, 3) := by decide +kernel
theorem d_Law_1771 : decode code 1771 = .ok (.aload_n 2, 1) := by decide +kernel
theorem d_Law_1772 : decode code 1772 = .ok (.invokevirtual 233, 3) := by decide +kernel
theorem d_Law_1775 : decode code 1775 = .ok (.if_icmp .eq 5, 3) := by decide +kernel
theorem d_Law_1778 : decode code 1778 = .ok (.iconst 0, 1) := by decide +kernel
theorem d_Law_1779 : decode code 1779 = .ok (.ireturn, 1) := by decide +kernel
theorem d_Law_1780 : decode code 1780 = .ok (.iinc 3 6, 3) := by decide +kernel
theorem d_Law_1783 : decode code 1783 = .ok (.goto (-1765), 3) := by decide +kernel
theorem d_Law_1786 : decode code 1786 = .ok (.iconst 1, 1) := by decide +kernel
theorem d_Law_1787 : decode code 1787 = .ok (.ireturn, 1) := by decide +kernel
