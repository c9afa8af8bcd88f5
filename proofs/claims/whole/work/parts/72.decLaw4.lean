theorem d_Lw_law_1020 : decode code 1020 = .ok (.ifCond .ne 14, 3) := by decide +kernel
theorem d_Lw_law_1023 : decode code 1023 = .ok (.aload_n 3, 1) := by decide +kernel
theorem d_Lw_law_1024 : decode code 1024 = .ok (.iconst 0, 1) := by decide +kernel
theorem d_Lw_law_1025 : decode code 1025 = .ok (.laload, 1) := by decide +kernel
theorem d_Lw_law_1026 : decode code 1026 = .ok (.lload 6, 2) := by decide +kernel
theorem d_Lw_law_1028 : decode code 1028 = .ok (.lcmp, 1) := by decide +kernel
theorem d_Lw_law_1029 : decode code 1029 = .ok (.ifCond .eq 5, 3) := by decide +kernel
theorem d_Lw_law_1032 : decode code 1032 = .ok (.iconst 0, 1) := by decide +kernel
theorem d_Lw_law_1033 : decode code 1033 = .ok (.ireturn, 1) := by decide +kernel
theorem d_Lw_law_1034 : decode code 1034 = .ok (.goto 499, 3) := by decide +kernel
theorem d_Lw_law_1037 : decode code 1037 = .ok (.aload_n 1, 1) := by decide +kernel
theorem d_Lw_law_1038 : decode code 1038 = .ok (.aload_n 0, 1) := by decide +kernel
theorem d_Lw_law_1039 : decode code 1039 = .ok (.iload 4, 2) := by decide +kernel
theorem d_Lw_law_1041 : decode code 1041 = .ok (.iconst 1, 1) := by decide +kernel
theorem d_Lw_law_1042 : decode code 1042 = .ok (.iadd, 1) := by decide +kernel
theorem d_Lw_law_1043 : decode code 1043 = .ok (.iaload, 1) := by decide +kernel
theorem d_Lw_law_1044 : decode code 1044 = .ok (.aload_n 3, 1) := by decide +kernel
theorem d_Lw_law_1045 : decode code 1045 = .ok (.invokestatic 150, 3) := by decide +kernel
theorem d_Lw_law_1048 : decode code 1048 = .ok (.istore 5, 2) := by decide +kernel
theorem d_Lw_law_1050 : decode code 1050 = .ok (.aload_n 2, 1) := by decide +kernel
theorem d_Lw_law_1051 : decode code 1051 = .ok (.aload_n 0, 1) := by decide +kernel
theorem d_Lw_law_1052 : decode code 1052 = .ok (.iload 4, 2) := by decide +kernel
theorem d_Lw_law_1054 : decode code 1054 = .ok (.iconst 1, 1) := by decide +kernel
theorem d_Lw_law_1055 : decode code 1055 = .ok (.iadd, 1) := by decide +kernel
theorem d_Lw_law_1056 : decode code 1056 = .ok (.iaload, 1) := by decide +kernel
theorem d_Lw_law_1057 : decode code 1057 = .ok (.invokevirtual 152, 3) := by decide +kernel
theorem d_Lw_law_1060 : decode code 1060 = .ok (.istore 6, 2) := by decide +kernel
theorem d_Lw_law_1062 : decode code 1062 = .ok (.aload_n 2, 1) := by decide +kernel
theorem d_Lw_law_1063 : decode code 1063 = .ok (.invokevirtual 96, 3) := by decide +kernel
theorem d_Lw_law_1066 : decode code 1066 = .ok (.iload 5, 2) := by decide +kernel
theorem d_Lw_law_1068 : decode code 1068 = .ok (.if_icmp .eq 5, 3) := by decide +kernel
theorem d_Lw_law_1071 : decode code 1071 = .ok (.iconst 0, 1) := by decide +kernel
theorem d_Lw_law_1072 : decode code 1072 = .ok (.ireturn, 1) := by decide +kernel
theorem d_Lw_law_1073 : decode code 1073 = .ok (.iload 5, 2) := by decide +kernel
theorem d_Lw_law_1075 : decode code 1075 = .ok (.ifCond .ne 15, 3) := by decide +kernel
theorem d_Lw_law_1078 : decode code 1078 = .ok (.aload_n 3, 1) := by decide +kernel
theorem d_Lw_law_1079 : decode code 1079 = .ok (.iconst 0, 1) := by decide +kernel
theorem d_Lw_law_1080 : decode code 1080 = .ok (.laload, 1) := by decide +kernel
theorem d_Lw_law_1081 : decode code 1081 = .ok (.iload 6, 2) := by decide +kernel
theorem d_Lw_law_1083 : decode code 1083 = .ok (.i2l, 1) := by decide +kernel
theorem d_Lw_law_1084 : decode code 1084 = .ok (.lcmp, 1) := by decide +kernel
theorem d_Lw_law_1085 : decode code 1085 = .ok (.ifCond .eq 5, 3) := by decide +kernel
theorem d_Lw_law_1088 : decode code 1088 = .ok (.iconst 0, 1) := by decide +kernel
theorem d_Lw_law_1089 : decode code 1089 = .ok (.ireturn, 1) := by decide +kernel
theorem d_Lw_law_1090 : decode code 1090 = .ok (.goto 443, 3) := by decide +kernel
theorem d_Lw_law_1093 : decode code 1093 = .ok (.aload_n 1, 1) := by decide +kernel
theorem d_Lw_law_1094 : decode code 1094 = .ok (.aload_n 0, 1) := by decide +kernel
theorem d_Lw_law_1095 : decode code 1095 = .ok (.iload 4, 2) := by decide +kernel
theorem d_Lw_law_1097 : decode code 1097 = .ok (.iconst 1, 1) := by decide +kernel
theorem d_Lw_law_1098 : decode code 1098 = .ok (.iadd, 1) := by decide +kernel
theorem d_Lw_law_1099 : decode code 1099 = .ok (.iaload, 1) := by decide +kernel
theorem d_Lw_law_1100 : decode code 1100 = .ok (.aload_n 0, 1) := by decide +kernel
theorem d_Lw_law_1101 : decode code 1101 = .ok (.iload 4, 2) := by decide +kernel
theorem d_Lw_law_1103 : decode code 1103 = .ok (.iconst 2, 1) := by decide +kernel
theorem d_Lw_law_1104 : decode code 1104 = .ok (.iadd, 1) := by decide +kernel
theorem d_Lw_law_1105 : decode code 1105 = .ok (.iaload, 1) := by decide +kernel
theorem d_Lw_law_1106 : decode code 1106 = .ok (.aload_n 0, 1) := by decide +kernel
theorem d_Lw_law_1107 : decode code 1107 = .ok (.iload 4, 2) := by decide +kernel
theorem d_Lw_law_1109 : decode code 1109 = .ok (.iconst 3, 1) := by decide +kernel
theorem d_Lw_law_1110 : decode code 1110 = .ok (.iadd, 1) := by decide +kernel
theorem d_Lw_law_1111 : decode code 1111 = .ok (.iaload, 1) := by decide +kernel
theorem d_Lw_law_1112 : decode code 1112 = .ok (.ifCond .eq 7, 3) := by decide +kernel
theorem d_Lw_law_1115 : decode code 1115 = .ok (.iconst 1, 1) := by decide +kernel
theorem d_Lw_law_1116 : decode code 1116 = .ok (.goto 4, 3) := by decide +kernel
theorem d_Lw_law_1119 : decode code 1119 = .ok (.iconst 0, 1) := by decide +kernel
theorem d_Lw_law_1120 : decode code 1120 = .ok (.aload_n 3, 1) := by decide +kernel
theorem d_Lw_law_1121 : decode code 1121 = .ok (.invokestatic 153, 3) := by decide +kernel
theorem d_Lw_law_1124 : decode code 1124 = .ok (.istore 5, 2) := by decide +kernel
theorem d_Lw_law_1126 : decode code 1126 = .ok (.aload_n 2, 1) := by decide +kernel
theorem d_Lw_law_1127 : decode code 1127 = .ok (.aload_n 0, 1) := by decide +kernel
theorem d_Lw_law_1128 : decode code 1128 = .ok (.iload 4, 2) := by decide +kernel
theorem d_Lw_law_1130 : decode code 1130 = .ok (.iconst 1, 1) := by decide +kernel
theorem d_Lw_law_1131 : decode code 1131 = .ok (.iadd, 1) := by decide +kernel
theorem d_Lw_law_1132 : decode code 1132 = .ok (.iaload, 1) := by decide +kernel
theorem d_Lw_law_1133 : decode code 1133 = .ok (.aload_n 0, 1) := by decide +kernel
theorem d_Lw_law_1134 : decode code 1134 = .ok (.iload 4, 2) := by decide +kernel
theorem d_Lw_law_1136 : decode code 1136 = .ok (.iconst 2, 1) := by decide +kernel
theorem d_Lw_law_1137 : decode code 1137 = .ok (.iadd, 1) := by decide +kernel
theorem d_Lw_law_1138 : decode code 1138 = .ok (.iaload, 1) := by decide +kernel
theorem d_Lw_law_1139 : decode code 1139 = .ok (.aload_n 0, 1) := by decide +kernel
theorem d_Lw_law_1140 : decode code 1140 = .ok (.iload 4, 2) := by decide +kernel
theorem d_Lw_law_1142 : decode code 1142 = .ok (.iconst 3, 1) := by decide +kernel
theorem d_Lw_law_1143 : decode code 1143 = .ok (.iadd, 1) := by decide +kernel
theorem d_Lw_law_1144 : decode code 1144 = .ok (.iaload, 1) := by decide +kernel
theorem d_Lw_law_1145 : decode code 1145 = .ok (.ifCond .eq 7, 3) := by decide +kernel
theorem d_Lw_law_1148 : decode code 1148 = .ok (.iconst 1, 1) := by decide +kernel
theorem d_Lw_law_1149 : decode code 1149 = .ok (.goto 4, 3) := by decide +kernel
theorem d_Lw_law_1152 : decode code 1152 = .ok (.iconst 0, 1) := by decide +kernel
theorem d_Lw_law_1153 : decode code 1153 = .ok (.invokevirtual 155, 3) := by decide +kernel
theorem d_Lw_law_1156 : decode code 1156 = .ok (.istore 6, 2) := by decide +kernel
theorem d_Lw_law_1158 : decode code 1158 = .ok (.aload_n 2, 1) := by decide +kernel
theorem d_Lw_law_1159 : decode code 1159 = .ok (.invokevirtual 96, 3) := by decide +kernel
theorem d_Lw_law_1162 : decode code 1162 = .ok (.iload 5, 2) := by decide +kernel
theorem d_Lw_law_1164 : decode code 1164 = .ok (.if_icmp .eq 5, 3) := by decide +kernel
theorem d_Lw_law_1167 : decode code 1167 = .ok (.iconst 0, 1) := by decide +kernel
theorem d_Lw_law_1168 : decode code 1168 = .ok (.ireturn, 1) := by decide +kernel
theorem d_Lw_law_1169 : decode code 1169 = .ok (.iload 5, 2) := by decide +kernel
theorem d_Lw_law_1171 : decode code 1171 = .ok (.ifCond .ne 15, 3) := by decide +kernel
theorem d_Lw_law_1174 : decode code 1174 = .ok (.aload_n 3, 1) := by decide +kernel
theorem d_Lw_law_1175 : decode code 1175 = .ok (.iconst 0, 1) := by decide +kernel
theorem d_Lw_law_1176 : decode code 1176 = .ok (.laload, 1) := by decide +kernel
theorem d_Lw_law_1177 : decode code 1177 = .ok (.iload 6, 2) := by decide +kernel
theorem d_Lw_law_1179 : decode code 1179 = .ok (.i2l, 1) := by decide +kernel
theorem d_Lw_law_1180 : decode code 1180 = .ok (.lcmp, 1) := by decide +kernel
theorem d_Lw_law_1181 : decode code 1181 = .ok (.ifCond .eq 5, 3) := by decide +kernel
theorem d_Lw_law_1184 : decode code 1184 = .ok (.iconst 0, 1) := by decide +kernel
theorem d_Lw_law_1185 : decode code 1185 = .ok (.ireturn, 1) := by decide +kernel
theorem d_Lw_law_1186 : decode code 1186 = .ok (.goto 347, 3) := by decide +kernel
theorem d_Lw_law_1189 : decode code 1189 = .ok (.aload_n 1, 1) := by decide +kernel
theorem d_Lw_law_1190 : decode code 1190 = .ok (.aload_n 0, 1) := by decide +kernel
theorem d_Lw_law_1191 : decode code 1191 = .ok (.iload 4, 2) := by decide +kernel
theorem d_Lw_law_1193 : decode code 1193 = .ok (.iconst 1, 1) := by decide +kernel
theorem d_Lw_law_1194 : decode code 1194 = .ok (.iadd, 1) := by decide +kernel
theorem d_Lw_law_1195 : decode code 1195 = .ok (.iaload, 1) := by decide +kernel
theorem d_Lw_law_1196 : decode code 1196 = .ok (.aload_n 3, 1) := by decide +kernel
theorem d_Lw_law_1197 : decode code 1197 = .ok (.invokestatic 156, 3) := by decide +kernel
theorem d_Lw_law_1200 : decode code 1200 = .ok (.istore 5, 2) := by decide +kernel
theorem d_Lw_law_1202 : decode code 1202 = .ok (.aload_n 2, 1) := by decide +kernel
theorem d_Lw_law_1203 : decode code 1203 = .ok (.aload_n 0, 1) := by decide +kernel
theorem d_Lw_law_1204 : decode code 1204 = .ok (.iload 4, 2) := by decide +kernel
theorem d_Lw_law_1206 : decode code 1206 = .ok (.iconst 1, 1) := by decide +kernel
theorem d_Lw_law_1207 : decode code 1207 = .ok (.iadd, 1) := by decide +kernel
theorem d_Lw_law_1208 : decode code 1208 = .ok (.iaload, 1) := by decide +kernel
theorem d_Lw_law_1209 : decode code 1209 = .ok (.invokevirtual 158, 3) := by decide +kernel
theorem d_Lw_law_1212 : decode code 1212 = .ok (.lstore 6, 2) := by decide +kernel
theorem d_Lw_law_1214 : decode code 1214 = .ok (.aload_n 2, 1) := by decide +kernel
theorem d_Lw_law_1215 : decode code 1215 = .ok (.invokevirtual 96, 3) := by decide +kernel
theorem d_Lw_law_1218 : decode code 1218 = .ok (.iload 5, 2) := by decide +kernel
theorem d_Lw_law_1220 : decode code 1220 = .ok (.if_icmp .eq 5, 3) := by decide +kernel
theorem d_Lw_law_1223 : decode code 1223 = .ok (.iconst 0, 1) := by decide +kernel
theorem d_Lw_law_1224 : decode code 1224 = .ok (.ireturn, 1) := by decide +kernel
theorem d_Lw_law_1225 : decode code 1225 = .ok (.iload 5, 2) := by decide +kernel
theorem d_Lw_law_1227 : decode code 1227 = .ok (.ifCond .ne 14, 3) := by decide +kernel
theorem d_Lw_law_1230 : decode code 1230 = .ok (.aload_n 3, 1) := by decide +kernel
theorem d_Lw_law_1231 : decode code 1231 = .ok (.iconst 0, 1) := by decide +kernel
theorem d_Lw_law_1232 : decode code 1232 = .ok (.laload, 1) := by decide +kernel
theorem d_Lw_law_1233 : decode code 1233 = .ok (.lload 6, 2) := by decide +kernel
theorem d_Lw_law_1235 : decode code 1235 = .ok (.lcmp, 1) := by decide +kernel
theorem d_Lw_law_1236 : decode code 1236 = .ok (.ifCond .eq 5, 3) := by decide +kernel
theorem d_Lw_law_1239 : decode code 1239 = .ok (.iconst 0, 1) := by decide +kernel
theorem d_Lw_law_1240 : decode code 1240 = .ok (.ireturn, 1) := by decide +kernel
theorem d_Lw_law_1241 : decode code 1241 = .ok (.goto 292, 3) := by decide +kernel
theorem d_Lw_law_1244 : decode code 1244 = .ok (.aload_n 1, 1) := by decide +kernel
theorem d_Lw_law_1245 : decode code 1245 = .ok (.aload_n 0, 1) := by decide +kernel
theorem d_Lw_law_1246 : decode code 1246 = .ok (.iload 4, 2) := by decide +kernel
theorem d_Lw_law_1248 : decode code 1248 = .ok (.iconst 1, 1) := by decide +kernel
theorem d_Lw_law_1249 : decode code 1249 = .ok (.iadd, 1) := by decide +kernel
theorem d_Lw_law_1250 : decode code 1250 = .ok (.iaload, 1) := by decide +kernel
theorem d_Lw_law_1251 : decode code 1251 = .ok (.aload_n 3, 1) := by decide +kernel
theorem d_Lw_law_1252 : decode code 1252 = .ok (.invokestatic 159, 3) := by decide +kernel
