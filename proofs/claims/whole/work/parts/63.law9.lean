theorem d_L_law_1218 : decode code 1218 = .ok (.i2l, 1) := by decide +kernel
theorem d_L_law_1219 : decode code 1219 = .ok (.lcmp, 1) := by decide +kernel
theorem d_L_law_1220 : decode code 1220 = .ok (.ifCond .eq 5, 3) := by decide +kernel
theorem d_L_law_1223 : decode code 1223 = .ok (.iconst 0, 1) := by decide +kernel
theorem d_L_law_1224 : decode code 1224 = .ok (.ireturn, 1) := by decide +kernel
theorem d_L_law_1225 : decode code 1225 = .ok (.goto 95, 3) := by decide +kernel
theorem d_L_law_1228 : decode code 1228 = .ok (.aload_n 1, 1) := by decide +kernel
theorem d_L_law_1229 : decode code 1229 = .ok (.aload_n 0, 1) := by decide +kernel
theorem d_L_law_1230 : decode code 1230 = .ok (.iload 4, 2) := by decide +kernel
theorem d_L_law_1232 : decode code 1232 = .ok (.iconst 1, 1) := by decide +kernel
theorem d_L_law_1233 : decode code 1233 = .ok (.iadd, 1) := by decide +kernel
theorem d_L_law_1234 : decode code 1234 = .ok (.iaload, 1) := by decide +kernel
theorem d_L_law_1235 : decode code 1235 = .ok (.invokestatic 115, 3) := by decide +kernel
theorem d_L_law_1238 : decode code 1238 = .ok (.istore 5, 2) := by decide +kernel
theorem d_L_law_1240 : decode code 1240 = .ok (.aload_n 2, 1) := by decide +kernel
theorem d_L_law_1241 : decode code 1241 = .ok (.aload_n 0, 1) := by decide +kernel
theorem d_L_law_1242 : decode code 1242 = .ok (.iload 4, 2) := by decide +kernel
theorem d_L_law_1244 : decode code 1244 = .ok (.iconst 1, 1) := by decide +kernel
theorem d_L_law_1245 : decode code 1245 = .ok (.iadd, 1) := by decide +kernel
theorem d_L_law_1246 : decode code 1246 = .ok (.iaload, 1) := by decide +kernel
theorem d_L_law_1247 : decode code 1247 = .ok (.invokevirtual 118, 3) := by decide +kernel
theorem d_L_law_1250 : decode code 1250 = .ok (.aload_n 2, 1) := by decide +kernel
theorem d_L_law_1251 : decode code 1251 = .ok (.invokevirtual 80, 3) := by decide +kernel
theorem d_L_law_1254 : decode code 1254 = .ok (.iload 5, 2) := by decide +kernel
theorem d_L_law_1256 : decode code 1256 = .ok (.if_icmp .eq 5, 3) := by decide +kernel
theorem d_L_law_1259 : decode code 1259 = .ok (.iconst 0, 1) := by decide +kernel
theorem d_L_law_1260 : decode code 1260 = .ok (.ireturn, 1) := by decide +kernel
theorem d_L_law_1261 : decode code 1261 = .ok (.goto 59, 3) := by decide +kernel
theorem d_L_law_1264 : decode code 1264 = .ok (.aload_n 1, 1) := by decide +kernel
theorem d_L_law_1265 : decode code 1265 = .ok (.aload_n 0, 1) := by decide +kernel
theorem d_L_law_1266 : decode code 1266 = .ok (.iload 4, 2) := by decide +kernel
theorem d_L_law_1268 : decode code 1268 = .ok (.iconst 1, 1) := by decide +kernel
theorem d_L_law_1269 : decode code 1269 = .ok (.iadd, 1) := by decide +kernel
theorem d_L_law_1270 : decode code 1270 = .ok (.iaload, 1) := by decide +kernel
theorem d_L_law_1271 : decode code 1271 = .ok (.aload_n 3, 1) := by decide +kernel
theorem d_L_law_1272 : decode code 1272 = .ok (.invokestatic 119, 3) := by decide +kernel
theorem d_L_law_1275 : decode code 1275 = .ok (.istore 5, 2) := by decide +kernel
theorem d_L_law_1277 : decode code 1277 = .ok (.aload_n 2, 1) := by decide +kernel
theorem d_L_law_1278 : decode code 1278 = .ok (.aload_n 0, 1) := by decide +kernel
theorem d_L_law_1279 : decode code 1279 = .ok (.iload 4, 2) := by decide +kernel
theorem d_L_law_1281 : decode code 1281 = .ok (.iconst 1, 1) := by decide +kernel
theorem d_L_law_1282 : decode code 1282 = .ok (.iadd, 1) := by decide +kernel
theorem d_L_law_1283 : decode code 1283 = .ok (.iaload, 1) := by decide +kernel
theorem d_L_law_1284 : decode code 1284 = .ok (.invokevirtual 122, 3) := by decide +kernel
theorem d_L_law_1287 : decode code 1287 = .ok (.istore 6, 2) := by decide +kernel
theorem d_L_law_1289 : decode code 1289 = .ok (.aload_n 2, 1) := by decide +kernel
theorem d_L_law_1290 : decode code 1290 = .ok (.invokevirtual 80, 3) := by decide +kernel
theorem d_L_law_1293 : decode code 1293 = .ok (.iload 5, 2) := by decide +kernel
theorem d_L_law_1295 : decode code 1295 = .ok (.if_icmp .eq 5, 3) := by decide +kernel
theorem d_L_law_1298 : decode code 1298 = .ok (.iconst 0, 1) := by decide +kernel
theorem d_L_law_1299 : decode code 1299 = .ok (.ireturn, 1) := by decide +kernel
theorem d_L_law_1300 : decode code 1300 = .ok (.iload 5, 2) := by decide +kernel
theorem d_L_law_1302 : decode code 1302 = .ok (.ifCond .ne 15, 3) := by decide +kernel
theorem d_L_law_1305 : decode code 1305 = .ok (.aload_n 3, 1) := by decide +kernel
theorem d_L_law_1306 : decode code 1306 = .ok (.iconst 0, 1) := by decide +kernel
theorem d_L_law_1307 : decode code 1307 = .ok (.laload, 1) := by decide +kernel
theorem d_L_law_1308 : decode code 1308 = .ok (.iload 6, 2) := by decide +kernel
theorem d_L_law_1310 : decode code 1310 = .ok (.i2l, 1) := by decide +kernel
theorem d_L_law_1311 : decode code 1311 = .ok (.lcmp, 1) := by decide +kernel
theorem d_L_law_1312 : decode code 1312 = .ok (.ifCond .eq 5, 3) := by decide +kernel
theorem d_L_law_1315 : decode code 1315 = .ok (.iconst 0, 1) := by decide +kernel
theorem d_L_law_1316 : decode code 1316 = .ok (.ireturn, 1) := by decide +kernel
theorem d_L_law_1317 : decode code 1317 = .ok (.goto 3, 3) := by decide +kernel
theorem d_L_law_1320 : decode code 1320 = .ok (.iinc 4 7, 3) := by decide +kernel
theorem d_L_law_1323 : decode code 1323 = .ok (.goto (-1300), 3) := by decide +kernel
theorem d_L_law_1326 : decode code 1326 = .ok (.iconst 1, 1) := by decide +kernel
theorem d_L_law_1327 : decode code 1327 = .ok (.ireturn, 1) := by decide +kernel
