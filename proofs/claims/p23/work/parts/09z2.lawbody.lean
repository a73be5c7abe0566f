/-! ===== the law's body ===== -/
theorem W_1209 : Cond.code yX11_sign cX11_sign 2 (some .int) ∈ jT := jT_mem (mt_2 (List.mem_of_getElem? (i := 155) rfl)) rfl
theorem W_1210 : Cond.methodLink RL 26 yX11_sign ∈ jT := jT_mem (mt_2 (List.mem_of_getElem? (i := 152) rfl)) rfl
theorem W_1211 : Cond.instanceMethod yX11_sign ∈ jT := jT_mem (mt_2 (List.mem_of_getElem? (i := 153) rfl)) rfl
theorem W_1212 : Cond.selects RX11 yX11_sign yX11_sign ∈ jT := jT_mem (mt_2 (List.mem_of_getElem? (i := 154) rfl)) rfl
theorem W_1213 : Cond.code yX12_sign cX12_sign 3 (some .int) ∈ jT := jT_mem (mt_7 (List.mem_of_getElem? (i := 239) rfl)) rfl
theorem W_1214 : Cond.methodLink RL 30 yX12_sign ∈ jT := jT_mem (mt_7 (List.mem_of_getElem? (i := 236) rfl)) rfl
theorem W_1215 : Cond.instanceMethod yX12_sign ∈ jT := jT_mem (mt_7 (List.mem_of_getElem? (i := 237) rfl)) rfl
theorem W_1216 : Cond.selects RX12 yX12_sign yX12_sign ∈ jT := jT_mem (mt_7 (List.mem_of_getElem? (i := 238) rfl)) rfl
theorem W_1217 : Cond.code yX11_end cX11_end 2 (some .boolean) ∈ jT := jT_mem (mt_2 (List.mem_of_getElem? (i := 163) rfl)) rfl
theorem W_1218 : Cond.methodLink RL 31 yX11_end ∈ jT := jT_mem (mt_2 (List.mem_of_getElem? (i := 160) rfl)) rfl
theorem W_1219 : Cond.instanceMethod yX11_end ∈ jT := jT_mem (mt_2 (List.mem_of_getElem? (i := 161) rfl)) rfl
theorem W_1220 : Cond.selects RX11 yX11_end yX11_end ∈ jT := jT_mem (mt_2 (List.mem_of_getElem? (i := 162) rfl)) rfl
theorem W_1221 : Cond.code yX12_end cX12_end 2 (some .boolean) ∈ jT := jT_mem (mt_8 (List.mem_of_getElem? (i := 3) rfl)) rfl
theorem W_1222 : Cond.methodLink RL 35 yX12_end ∈ jT := jT_mem (mt_8 (List.mem_of_getElem? (i := 0) rfl)) rfl
theorem W_1223 : Cond.instanceMethod yX12_end ∈ jT := jT_mem (mt_8 (List.mem_of_getElem? (i := 1) rfl)) rfl
theorem W_1224 : Cond.selects RX12 yX12_end yX12_end ∈ jT := jT_mem (mt_8 (List.mem_of_getElem? (i := 2) rfl)) rfl
theorem W_1225 : Cond.code yX11_stairs cX11_stairs 4 (some .int) ∈ jT := jT_mem (mt_2 (List.mem_of_getElem? (i := 171) rfl)) rfl
theorem W_1226 : Cond.methodLink RL 36 yX11_stairs ∈ jT := jT_mem (mt_2 (List.mem_of_getElem? (i := 168) rfl)) rfl
theorem W_1227 : Cond.instanceMethod yX11_stairs ∈ jT := jT_mem (mt_2 (List.mem_of_getElem? (i := 169) rfl)) rfl
theorem W_1228 : Cond.selects RX11 yX11_stairs yX11_stairs ∈ jT := jT_mem (mt_2 (List.mem_of_getElem? (i := 170) rfl)) rfl
theorem W_1229 : Cond.code yX12_stairs cX12_stairs 5 (some .int) ∈ jT := jT_mem (mt_8 (List.mem_of_getElem? (i := 10) rfl)) rfl
theorem W_1230 : Cond.methodLink RL 40 yX12_stairs ∈ jT := jT_mem (mt_8 (List.mem_of_getElem? (i := 7) rfl)) rfl
theorem W_1231 : Cond.instanceMethod yX12_stairs ∈ jT := jT_mem (mt_8 (List.mem_of_getElem? (i := 8) rfl)) rfl
theorem W_1232 : Cond.selects RX12 yX12_stairs yX12_stairs ∈ jT := jT_mem (mt_8 (List.mem_of_getElem? (i := 9) rfl)) rfl
theorem W_1233 : Cond.code yX11_law cX11_law 3 (some .int) ∈ jT := jT_mem (mt_3 (List.mem_of_getElem? (i := 24) rfl)) rfl
theorem W_1234 : Cond.methodLink RL 41 yX11_law ∈ jT := jT_mem (mt_3 (List.mem_of_getElem? (i := 21) rfl)) rfl
theorem W_1235 : Cond.instanceMethod yX11_law ∈ jT := jT_mem (mt_3 (List.mem_of_getElem? (i := 22) rfl)) rfl
theorem W_1236 : Cond.selects RX11 yX11_law yX11_law ∈ jT := jT_mem (mt_3 (List.mem_of_getElem? (i := 23) rfl)) rfl
theorem W_1237 : Cond.code yX12_law cX12_law 4 (some .int) ∈ jT := jT_mem (mt_8 (List.mem_of_getElem? (i := 46) rfl)) rfl
theorem W_1238 : Cond.methodLink RL 44 yX12_law ∈ jT := jT_mem (mt_8 (List.mem_of_getElem? (i := 43) rfl)) rfl
theorem W_1239 : Cond.instanceMethod yX12_law ∈ jT := jT_mem (mt_8 (List.mem_of_getElem? (i := 44) rfl)) rfl
theorem W_1240 : Cond.selects RX12 yX12_law yX12_law ∈ jT := jT_mem (mt_8 (List.mem_of_getElem? (i := 45) rfl)) rfl
theorem W_1241 : Cond.initialized RL ∈ jT := jT_mem (mt_1 (List.mem_of_getElem? (i := 0) rfl)) rfl
theorem W_1242 : Cond.methodLink RL 45 yL_step ∈ jT := jT_mem (mt_6 (List.mem_of_getElem? (i := 174) rfl)) rfl
theorem W_1243 : Cond.static yL_step ∈ jT := jT_mem (mt_6 (List.mem_of_getElem? (i := 175) rfl)) rfl
theorem W_1244 : Cond.codeWith yL_step cL_step 5 (some .int) [(0, 10, 13, 13)] ∈ jT := jT_mem (mt_6 (List.mem_of_getElem? (i := 176) rfl)) rfl
theorem W_1245 : Cond.code yX12_step cX12_step 3 (some .int) ∈ jT := jT_mem (mt_8 (List.mem_of_getElem? (i := 74) rfl)) rfl
theorem W_1246 : Cond.methodLink RL 50 yX12_step ∈ jT := jT_mem (mt_8 (List.mem_of_getElem? (i := 71) rfl)) rfl
theorem W_1247 : Cond.instanceMethod yX12_step ∈ jT := jT_mem (mt_8 (List.mem_of_getElem? (i := 72) rfl)) rfl
theorem W_1248 : Cond.selects RX12 yX12_step yX12_step ∈ jT := jT_mem (mt_8 (List.mem_of_getElem? (i := 73) rfl)) rfl
theorem W_1249 : Cond.code yX11_set cX11_set 5 (some .int) ∈ jT := jT_mem (mt_3 (List.mem_of_getElem? (i := 161) rfl)) rfl
theorem W_1250 : Cond.methodLink RL 51 yX11_set ∈ jT := jT_mem (mt_3 (List.mem_of_getElem? (i := 158) rfl)) rfl
theorem W_1251 : Cond.instanceMethod yX11_set ∈ jT := jT_mem (mt_3 (List.mem_of_getElem? (i := 159) rfl)) rfl
theorem W_1252 : Cond.selects RX11 yX11_set yX11_set ∈ jT := jT_mem (mt_3 (List.mem_of_getElem? (i := 160) rfl)) rfl
theorem W_1253 : Cond.code yX12_set cX12_set 5 (some .int) ∈ jT := jT_mem (mt_8 (List.mem_of_getElem? (i := 86) rfl)) rfl
theorem W_1254 : Cond.methodLink RL 55 yX12_set ∈ jT := jT_mem (mt_8 (List.mem_of_getElem? (i := 83) rfl)) rfl
theorem W_1255 : Cond.instanceMethod yX12_set ∈ jT := jT_mem (mt_8 (List.mem_of_getElem? (i := 84) rfl)) rfl
theorem W_1256 : Cond.selects RX12 yX12_set yX12_set ∈ jT := jT_mem (mt_8 (List.mem_of_getElem? (i := 85) rfl)) rfl
theorem W_1257 : Cond.code yX11_sheet cX11_sheet 8 (some .int) ∈ jT := jT_mem (mt_3 (List.mem_of_getElem? (i := 169) rfl)) rfl
theorem W_1258 : Cond.methodLink RL 56 yX11_sheet ∈ jT := jT_mem (mt_3 (List.mem_of_getElem? (i := 166) rfl)) rfl
theorem W_1259 : Cond.instanceMethod yX11_sheet ∈ jT := jT_mem (mt_3 (List.mem_of_getElem? (i := 167) rfl)) rfl
theorem W_1260 : Cond.selects RX11 yX11_sheet yX11_sheet ∈ jT := jT_mem (mt_3 (List.mem_of_getElem? (i := 168) rfl)) rfl
theorem W_1261 : Cond.code yX12_sheet cX12_sheet 9 (some .int) ∈ jT := jT_mem (mt_8 (List.mem_of_getElem? (i := 90) rfl)) rfl
theorem W_1262 : Cond.methodLink RL 60 yX12_sheet ∈ jT := jT_mem (mt_8 (List.mem_of_getElem? (i := 87) rfl)) rfl
theorem W_1263 : Cond.instanceMethod yX12_sheet ∈ jT := jT_mem (mt_8 (List.mem_of_getElem? (i := 88) rfl)) rfl
theorem W_1264 : Cond.selects RX12 yX12_sheet yX12_sheet ∈ jT := jT_mem (mt_8 (List.mem_of_getElem? (i := 89) rfl)) rfl
theorem W_1265 : Cond.code yX12_feud cX12_feud 4 (some .boolean) ∈ jT := jT_mem (mt_8 (List.mem_of_getElem? (i := 96) rfl)) rfl
theorem W_1266 : Cond.methodLink RL 65 yX12_feud ∈ jT := jT_mem (mt_8 (List.mem_of_getElem? (i := 93) rfl)) rfl
theorem W_1267 : Cond.instanceMethod yX12_feud ∈ jT := jT_mem (mt_8 (List.mem_of_getElem? (i := 94) rfl)) rfl
theorem W_1268 : Cond.selects RX12 yX12_feud yX12_feud ∈ jT := jT_mem (mt_8 (List.mem_of_getElem? (i := 95) rfl)) rfl
theorem W_1269 : Cond.code yX11_feud cX11_feud 4 (some .boolean) ∈ jT := jT_mem (mt_3 (List.mem_of_getElem? (i := 182) rfl)) rfl
theorem W_1270 : Cond.methodLink RL 61 yX11_feud ∈ jT := jT_mem (mt_3 (List.mem_of_getElem? (i := 179) rfl)) rfl
theorem W_1271 : Cond.instanceMethod yX11_feud ∈ jT := jT_mem (mt_3 (List.mem_of_getElem? (i := 180) rfl)) rfl
theorem W_1272 : Cond.selects RX11 yX11_feud yX11_feud ∈ jT := jT_mem (mt_3 (List.mem_of_getElem? (i := 181) rfl)) rfl
theorem W_1273 : Cond.code yX11_wears cX11_wears 4 (some .int) ∈ jT := jT_mem (mt_3 (List.mem_of_getElem? (i := 192) rfl)) rfl
theorem W_1274 : Cond.methodLink RL 66 yX11_wears ∈ jT := jT_mem (mt_3 (List.mem_of_getElem? (i := 189) rfl)) rfl
theorem W_1275 : Cond.instanceMethod yX11_wears ∈ jT := jT_mem (mt_3 (List.mem_of_getElem? (i := 190) rfl)) rfl
theorem W_1276 : Cond.selects RX11 yX11_wears yX11_wears ∈ jT := jT_mem (mt_3 (List.mem_of_getElem? (i := 191) rfl)) rfl
theorem W_1277 : Cond.code yX12_wears cX12_wears 4 (some .int) ∈ jT := jT_mem (mt_8 (List.mem_of_getElem? (i := 107) rfl)) rfl
theorem W_1278 : Cond.methodLink RL 69 yX12_wears ∈ jT := jT_mem (mt_8 (List.mem_of_getElem? (i := 104) rfl)) rfl
theorem W_1279 : Cond.instanceMethod yX12_wears ∈ jT := jT_mem (mt_8 (List.mem_of_getElem? (i := 105) rfl)) rfl
theorem W_1280 : Cond.selects RX12 yX12_wears yX12_wears ∈ jT := jT_mem (mt_8 (List.mem_of_getElem? (i := 106) rfl)) rfl
theorem W_1281 : Cond.code yX11_pilgrim cX11_pilgrim 6 (some .int) ∈ jT := jT_mem (mt_3 (List.mem_of_getElem? (i := 196) rfl)) rfl
theorem W_1282 : Cond.methodLink RL 70 yX11_pilgrim ∈ jT := jT_mem (mt_3 (List.mem_of_getElem? (i := 193) rfl)) rfl
theorem W_1283 : Cond.instanceMethod yX11_pilgrim ∈ jT := jT_mem (mt_3 (List.mem_of_getElem? (i := 194) rfl)) rfl
theorem W_1284 : Cond.selects RX11 yX11_pilgrim yX11_pilgrim ∈ jT := jT_mem (mt_3 (List.mem_of_getElem? (i := 195) rfl)) rfl
theorem W_1285 : Cond.code yX12_pilgrim cX12_pilgrim 5 (some .int) ∈ jT := jT_mem (mt_8 (List.mem_of_getElem? (i := 111) rfl)) rfl
theorem W_1286 : Cond.methodLink RL 73 yX12_pilgrim ∈ jT := jT_mem (mt_8 (List.mem_of_getElem? (i := 108) rfl)) rfl
theorem W_1287 : Cond.instanceMethod yX12_pilgrim ∈ jT := jT_mem (mt_8 (List.mem_of_getElem? (i := 109) rfl)) rfl
theorem W_1288 : Cond.selects RX12 yX12_pilgrim yX12_pilgrim ∈ jT := jT_mem (mt_8 (List.mem_of_getElem? (i := 110) rfl)) rfl
theorem W_1289 : Cond.code yX11_vow cX11_vow 5 (some .int) ∈ jT := jT_mem (mt_4 (List.mem_of_getElem? (i := 69) rfl)) rfl
theorem W_1290 : Cond.methodLink RL 74 yX11_vow ∈ jT := jT_mem (mt_4 (List.mem_of_getElem? (i := 66) rfl)) rfl
theorem W_1291 : Cond.instanceMethod yX11_vow ∈ jT := jT_mem (mt_4 (List.mem_of_getElem? (i := 67) rfl)) rfl
theorem W_1292 : Cond.selects RX11 yX11_vow yX11_vow ∈ jT := jT_mem (mt_4 (List.mem_of_getElem? (i := 68) rfl)) rfl
theorem W_1293 : Cond.code yX12_vow cX12_vow 4 (some .int) ∈ jT := jT_mem (mt_8 (List.mem_of_getElem? (i := 115) rfl)) rfl
theorem W_1294 : Cond.methodLink RL 77 yX12_vow ∈ jT := jT_mem (mt_8 (List.mem_of_getElem? (i := 112) rfl)) rfl
theorem W_1295 : Cond.instanceMethod yX12_vow ∈ jT := jT_mem (mt_8 (List.mem_of_getElem? (i := 113) rfl)) rfl
theorem W_1296 : Cond.selects RX12 yX12_vow yX12_vow ∈ jT := jT_mem (mt_8 (List.mem_of_getElem? (i := 114) rfl)) rfl
theorem W_1297 : Cond.methodLink RL 78 yL_of ∈ jT := jT_mem (mt_7 (List.mem_of_getElem? (i := 8) rfl)) rfl
theorem W_1298 : Cond.static yL_of ∈ jT := jT_mem (mt_7 (List.mem_of_getElem? (i := 9) rfl)) rfl
theorem W_1299 : Cond.codeWith yL_of cL_of 5 (some .int) [(0, 10, 13, 13)] ∈ jT := jT_mem (mt_7 (List.mem_of_getElem? (i := 10) rfl)) rfl
theorem W_1300 : Cond.code yX12_of cX12_of 3 (some .int) ∈ jT := jT_mem (mt_8 (List.mem_of_getElem? (i := 123) rfl)) rfl
theorem W_1301 : Cond.methodLink RL 80 yX12_of ∈ jT := jT_mem (mt_8 (List.mem_of_getElem? (i := 120) rfl)) rfl
theorem W_1302 : Cond.instanceMethod yX12_of ∈ jT := jT_mem (mt_8 (List.mem_of_getElem? (i := 121) rfl)) rfl
theorem W_1303 : Cond.selects RX12 yX12_of yX12_of ∈ jT := jT_mem (mt_8 (List.mem_of_getElem? (i := 122) rfl)) rfl
theorem W_1304 : Cond.code yX11_costs cX11_costs 4 (some .int) ∈ jT := jT_mem (mt_4 (List.mem_of_getElem? (i := 73) rfl)) rfl
theorem W_1305 : Cond.methodLink RL 81 yX11_costs ∈ jT := jT_mem (mt_4 (List.mem_of_getElem? (i := 70) rfl)) rfl
theorem W_1306 : Cond.instanceMethod yX11_costs ∈ jT := jT_mem (mt_4 (List.mem_of_getElem? (i := 71) rfl)) rfl
theorem W_1307 : Cond.selects RX11 yX11_costs yX11_costs ∈ jT := jT_mem (mt_4 (List.mem_of_getElem? (i := 72) rfl)) rfl
theorem W_1308 : Cond.code yX12_costs cX12_costs 3 (some .int) ∈ jT := jT_mem (mt_8 (List.mem_of_getElem? (i := 127) rfl)) rfl
theorem W_1309 : Cond.methodLink RL 84 yX12_costs ∈ jT := jT_mem (mt_8 (List.mem_of_getElem? (i := 124) rfl)) rfl
theorem W_1310 : Cond.instanceMethod yX12_costs ∈ jT := jT_mem (mt_8 (List.mem_of_getElem? (i := 125) rfl)) rfl
theorem W_1311 : Cond.selects RX12 yX12_costs yX12_costs ∈ jT := jT_mem (mt_8 (List.mem_of_getElem? (i := 126) rfl)) rfl
theorem W_1312 : Cond.code yX11_tread cX11_tread 6 (some .int) ∈ jT := jT_mem (mt_4 (List.mem_of_getElem? (i := 134) rfl)) rfl
theorem W_1313 : Cond.methodLink RL 85 yX11_tread ∈ jT := jT_mem (mt_4 (List.mem_of_getElem? (i := 131) rfl)) rfl
theorem W_1314 : Cond.instanceMethod yX11_tread ∈ jT := jT_mem (mt_4 (List.mem_of_getElem? (i := 132) rfl)) rfl
theorem W_1315 : Cond.selects RX11 yX11_tread yX11_tread ∈ jT := jT_mem (mt_4 (List.mem_of_getElem? (i := 133) rfl)) rfl
theorem W_1316 : Cond.code yX12_tread cX12_tread 8 (some .int) ∈ jT := jT_mem (mt_8 (List.mem_of_getElem? (i := 151) rfl)) rfl
theorem W_1317 : Cond.methodLink RL 88 yX12_tread ∈ jT := jT_mem (mt_8 (List.mem_of_getElem? (i := 148) rfl)) rfl
theorem W_1318 : Cond.instanceMethod yX12_tread ∈ jT := jT_mem (mt_8 (List.mem_of_getElem? (i := 149) rfl)) rfl
theorem W_1319 : Cond.selects RX12 yX12_tread yX12_tread ∈ jT := jT_mem (mt_8 (List.mem_of_getElem? (i := 150) rfl)) rfl
theorem W_1320 : Cond.code yX11_rests cX11_rests 5 (some .int) ∈ jT := jT_mem (mt_4 (List.mem_of_getElem? (i := 164) rfl)) rfl
theorem W_1321 : Cond.methodLink RL 89 yX11_rests ∈ jT := jT_mem (mt_4 (List.mem_of_getElem? (i := 161) rfl)) rfl
theorem W_1322 : Cond.instanceMethod yX11_rests ∈ jT := jT_mem (mt_4 (List.mem_of_getElem? (i := 162) rfl)) rfl
theorem W_1323 : Cond.selects RX11 yX11_rests yX11_rests ∈ jT := jT_mem (mt_4 (List.mem_of_getElem? (i := 163) rfl)) rfl
theorem W_1324 : Cond.code yX12_rests cX12_rests 5 (some .int) ∈ jT := jT_mem (mt_8 (List.mem_of_getElem? (i := 168) rfl)) rfl
theorem W_1325 : Cond.methodLink RL 92 yX12_rests ∈ jT := jT_mem (mt_8 (List.mem_of_getElem? (i := 165) rfl)) rfl
theorem W_1326 : Cond.instanceMethod yX12_rests ∈ jT := jT_mem (mt_8 (List.mem_of_getElem? (i := 166) rfl)) rfl
theorem W_1327 : Cond.selects RX12 yX12_rests yX12_rests ∈ jT := jT_mem (mt_8 (List.mem_of_getElem? (i := 167) rfl)) rfl
theorem W_1328 : Cond.code yX11_returns cX11_returns 4 (some .int) ∈ jT := jT_mem (mt_4 (List.mem_of_getElem? (i := 168) rfl)) rfl
theorem W_1329 : Cond.methodLink RL 93 yX11_returns ∈ jT := jT_mem (mt_4 (List.mem_of_getElem? (i := 165) rfl)) rfl
theorem W_1330 : Cond.instanceMethod yX11_returns ∈ jT := jT_mem (mt_4 (List.mem_of_getElem? (i := 166) rfl)) rfl
theorem W_1331 : Cond.selects RX11 yX11_returns yX11_returns ∈ jT := jT_mem (mt_4 (List.mem_of_getElem? (i := 167) rfl)) rfl
theorem W_1332 : Cond.code yX12_returns cX12_returns 3 (some .int) ∈ jT := jT_mem (mt_8 (List.mem_of_getElem? (i := 172) rfl)) rfl
theorem W_1333 : Cond.methodLink RL 96 yX12_returns ∈ jT := jT_mem (mt_8 (List.mem_of_getElem? (i := 169) rfl)) rfl
theorem W_1334 : Cond.instanceMethod yX12_returns ∈ jT := jT_mem (mt_8 (List.mem_of_getElem? (i := 170) rfl)) rfl
theorem W_1335 : Cond.selects RX12 yX12_returns yX12_returns ∈ jT := jT_mem (mt_8 (List.mem_of_getElem? (i := 171) rfl)) rfl
theorem W_1336 : Cond.code yX11_earned cX11_earned 2 (some .int) ∈ jT := jT_mem (mt_4 (List.mem_of_getElem? (i := 172) rfl)) rfl
theorem W_1337 : Cond.methodLink RL 97 yX11_earned ∈ jT := jT_mem (mt_4 (List.mem_of_getElem? (i := 169) rfl)) rfl
theorem W_1338 : Cond.instanceMethod yX11_earned ∈ jT := jT_mem (mt_4 (List.mem_of_getElem? (i := 170) rfl)) rfl
theorem W_1339 : Cond.selects RX11 yX11_earned yX11_earned ∈ jT := jT_mem (mt_4 (List.mem_of_getElem? (i := 171) rfl)) rfl
theorem W_1340 : Cond.code yX12_earned cX12_earned 4 (some .int) ∈ jT := jT_mem (mt_8 (List.mem_of_getElem? (i := 176) rfl)) rfl
theorem W_1341 : Cond.methodLink RL 100 yX12_earned ∈ jT := jT_mem (mt_8 (List.mem_of_getElem? (i := 173) rfl)) rfl
theorem W_1342 : Cond.instanceMethod yX12_earned ∈ jT := jT_mem (mt_8 (List.mem_of_getElem? (i := 174) rfl)) rfl
theorem W_1343 : Cond.selects RX12 yX12_earned yX12_earned ∈ jT := jT_mem (mt_8 (List.mem_of_getElem? (i := 175) rfl)) rfl
theorem W_1344 : Cond.code yX11_climb cX11_climb 6 (some .int) ∈ jT := jT_mem (mt_4 (List.mem_of_getElem? (i := 180) rfl)) rfl
theorem W_1345 : Cond.methodLink RL 101 yX11_climb ∈ jT := jT_mem (mt_4 (List.mem_of_getElem? (i := 177) rfl)) rfl
theorem W_1346 : Cond.instanceMethod yX11_climb ∈ jT := jT_mem (mt_4 (List.mem_of_getElem? (i := 178) rfl)) rfl
theorem W_1347 : Cond.selects RX11 yX11_climb yX11_climb ∈ jT := jT_mem (mt_4 (List.mem_of_getElem? (i := 179) rfl)) rfl
theorem W_1348 : Cond.code yX12_climb cX12_climb 3 (some .int) ∈ jT := jT_mem (mt_8 (List.mem_of_getElem? (i := 180) rfl)) rfl
theorem W_1349 : Cond.methodLink RL 104 yX12_climb ∈ jT := jT_mem (mt_8 (List.mem_of_getElem? (i := 177) rfl)) rfl
theorem W_1350 : Cond.instanceMethod yX12_climb ∈ jT := jT_mem (mt_8 (List.mem_of_getElem? (i := 178) rfl)) rfl
theorem W_1351 : Cond.selects RX12 yX12_climb yX12_climb ∈ jT := jT_mem (mt_8 (List.mem_of_getElem? (i := 179) rfl)) rfl
theorem W_1352 : Cond.code yX11_knees cX11_knees 5 (some .int) ∈ jT := jT_mem (mt_5 (List.mem_of_getElem? (i := 57) rfl)) rfl
theorem W_1353 : Cond.methodLink RL 105 yX11_knees ∈ jT := jT_mem (mt_5 (List.mem_of_getElem? (i := 54) rfl)) rfl
theorem W_1354 : Cond.instanceMethod yX11_knees ∈ jT := jT_mem (mt_5 (List.mem_of_getElem? (i := 55) rfl)) rfl
theorem W_1355 : Cond.selects RX11 yX11_knees yX11_knees ∈ jT := jT_mem (mt_5 (List.mem_of_getElem? (i := 56) rfl)) rfl
theorem W_1356 : Cond.code yX12_knees cX12_knees 3 (some .int) ∈ jT := jT_mem (mt_8 (List.mem_of_getElem? (i := 201) rfl)) rfl
theorem W_1357 : Cond.methodLink RL 108 yX12_knees ∈ jT := jT_mem (mt_8 (List.mem_of_getElem? (i := 198) rfl)) rfl
theorem W_1358 : Cond.instanceMethod yX12_knees ∈ jT := jT_mem (mt_8 (List.mem_of_getElem? (i := 199) rfl)) rfl
theorem W_1359 : Cond.selects RX12 yX12_knees yX12_knees ∈ jT := jT_mem (mt_8 (List.mem_of_getElem? (i := 200) rfl)) rfl
theorem W_1360 : Cond.code yX11_ways cX11_ways 6 (some .long) ∈ jT := jT_mem (mt_5 (List.mem_of_getElem? (i := 72) rfl)) rfl
theorem W_1361 : Cond.methodLink RL 109 yX11_ways ∈ jT := jT_mem (mt_5 (List.mem_of_getElem? (i := 69) rfl)) rfl
theorem W_1362 : Cond.instanceMethod yX11_ways ∈ jT := jT_mem (mt_5 (List.mem_of_getElem? (i := 70) rfl)) rfl
theorem W_1363 : Cond.selects RX11 yX11_ways yX11_ways ∈ jT := jT_mem (mt_5 (List.mem_of_getElem? (i := 71) rfl)) rfl
theorem W_1364 : Cond.code yX12_ways cX12_ways 4 (some .long) ∈ jT := jT_mem (mt_8 (List.mem_of_getElem? (i := 205) rfl)) rfl
theorem W_1365 : Cond.methodLink RL 113 yX12_ways ∈ jT := jT_mem (mt_8 (List.mem_of_getElem? (i := 202) rfl)) rfl
theorem W_1366 : Cond.instanceMethod yX12_ways ∈ jT := jT_mem (mt_8 (List.mem_of_getElem? (i := 203) rfl)) rfl
theorem W_1367 : Cond.selects RX12 yX12_ways yX12_ways ∈ jT := jT_mem (mt_8 (List.mem_of_getElem? (i := 204) rfl)) rfl
theorem W_1368 : Cond.code yX11_trod cX11_trod 7 (some .int) ∈ jT := jT_mem (mt_5 (List.mem_of_getElem? (i := 112) rfl)) rfl
theorem W_1369 : Cond.methodLink RL 114 yX11_trod ∈ jT := jT_mem (mt_5 (List.mem_of_getElem? (i := 109) rfl)) rfl
theorem W_1370 : Cond.instanceMethod yX11_trod ∈ jT := jT_mem (mt_5 (List.mem_of_getElem? (i := 110) rfl)) rfl
theorem W_1371 : Cond.selects RX11 yX11_trod yX11_trod ∈ jT := jT_mem (mt_5 (List.mem_of_getElem? (i := 111) rfl)) rfl
theorem W_1372 : Cond.code yX12_trod cX12_trod 6 (some .int) ∈ jT := jT_mem (mt_8 (List.mem_of_getElem? (i := 216) rfl)) rfl
theorem W_1373 : Cond.methodLink RL 117 yX12_trod ∈ jT := jT_mem (mt_8 (List.mem_of_getElem? (i := 213) rfl)) rfl
theorem W_1374 : Cond.instanceMethod yX12_trod ∈ jT := jT_mem (mt_8 (List.mem_of_getElem? (i := 214) rfl)) rfl
theorem W_1375 : Cond.selects RX12 yX12_trod yX12_trod ∈ jT := jT_mem (mt_8 (List.mem_of_getElem? (i := 215) rfl)) rfl
theorem W_1376 : Cond.code yX11_who cX11_who 6 (some .int) ∈ jT := jT_mem (mt_5 (List.mem_of_getElem? (i := 120) rfl)) rfl
theorem W_1377 : Cond.methodLink RL 118 yX11_who ∈ jT := jT_mem (mt_5 (List.mem_of_getElem? (i := 117) rfl)) rfl
theorem W_1378 : Cond.instanceMethod yX11_who ∈ jT := jT_mem (mt_5 (List.mem_of_getElem? (i := 118) rfl)) rfl
theorem W_1379 : Cond.selects RX11 yX11_who yX11_who ∈ jT := jT_mem (mt_5 (List.mem_of_getElem? (i := 119) rfl)) rfl
theorem W_1380 : Cond.code yX12_who cX12_who 5 (some .int) ∈ jT := jT_mem (mt_8 (List.mem_of_getElem? (i := 228) rfl)) rfl
theorem W_1381 : Cond.methodLink RL 121 yX12_who ∈ jT := jT_mem (mt_8 (List.mem_of_getElem? (i := 225) rfl)) rfl
theorem W_1382 : Cond.instanceMethod yX12_who ∈ jT := jT_mem (mt_8 (List.mem_of_getElem? (i := 226) rfl)) rfl
theorem W_1383 : Cond.selects RX12 yX12_who yX12_who ∈ jT := jT_mem (mt_8 (List.mem_of_getElem? (i := 227) rfl)) rfl
theorem W_1384 : Cond.code yX11_next cX11_next 6 (some .int) ∈ jT := jT_mem (mt_5 (List.mem_of_getElem? (i := 124) rfl)) rfl
theorem W_1385 : Cond.methodLink RL 122 yX11_next ∈ jT := jT_mem (mt_5 (List.mem_of_getElem? (i := 121) rfl)) rfl
theorem W_1386 : Cond.instanceMethod yX11_next ∈ jT := jT_mem (mt_5 (List.mem_of_getElem? (i := 122) rfl)) rfl
theorem W_1387 : Cond.selects RX11 yX11_next yX11_next ∈ jT := jT_mem (mt_5 (List.mem_of_getElem? (i := 123) rfl)) rfl
theorem W_1388 : Cond.code yX12_next cX12_next 4 (some .int) ∈ jT := jT_mem (mt_8 (List.mem_of_getElem? (i := 232) rfl)) rfl
theorem W_1389 : Cond.methodLink RL 125 yX12_next ∈ jT := jT_mem (mt_8 (List.mem_of_getElem? (i := 229) rfl)) rfl
theorem W_1390 : Cond.instanceMethod yX12_next ∈ jT := jT_mem (mt_8 (List.mem_of_getElem? (i := 230) rfl)) rfl
theorem W_1391 : Cond.selects RX12 yX12_next yX12_next ∈ jT := jT_mem (mt_8 (List.mem_of_getElem? (i := 231) rfl)) rfl
theorem W_1392 : Cond.code yX11_bears cX11_bears 6 (some .int) ∈ jT := jT_mem (mt_5 (List.mem_of_getElem? (i := 137) rfl)) rfl
theorem W_1393 : Cond.methodLink RL 126 yX11_bears ∈ jT := jT_mem (mt_5 (List.mem_of_getElem? (i := 134) rfl)) rfl
theorem W_1394 : Cond.instanceMethod yX11_bears ∈ jT := jT_mem (mt_5 (List.mem_of_getElem? (i := 135) rfl)) rfl
theorem W_1395 : Cond.selects RX11 yX11_bears yX11_bears ∈ jT := jT_mem (mt_5 (List.mem_of_getElem? (i := 136) rfl)) rfl
theorem W_1396 : Cond.code yX12_bears cX12_bears 5 (some .int) ∈ jT := jT_mem (mt_9 (List.mem_of_getElem? (i := 0) rfl)) rfl
theorem W_1397 : Cond.methodLink RL 129 yX12_bears ∈ jT := jT_mem (mt_8 (List.mem_of_getElem? (i := 237) rfl)) rfl
theorem W_1398 : Cond.instanceMethod yX12_bears ∈ jT := jT_mem (mt_8 (List.mem_of_getElem? (i := 238) rfl)) rfl
theorem W_1399 : Cond.selects RX12 yX12_bears yX12_bears ∈ jT := jT_mem (mt_8 (List.mem_of_getElem? (i := 239) rfl)) rfl
theorem W_1400 : Cond.code yX11_breaks cX11_breaks 8 (some .int) ∈ jT := jT_mem (mt_5 (List.mem_of_getElem? (i := 141) rfl)) rfl
theorem W_1401 : Cond.methodLink RL 130 yX11_breaks ∈ jT := jT_mem (mt_5 (List.mem_of_getElem? (i := 138) rfl)) rfl
theorem W_1402 : Cond.instanceMethod yX11_breaks ∈ jT := jT_mem (mt_5 (List.mem_of_getElem? (i := 139) rfl)) rfl
theorem W_1403 : Cond.selects RX11 yX11_breaks yX11_breaks ∈ jT := jT_mem (mt_5 (List.mem_of_getElem? (i := 140) rfl)) rfl
theorem W_1404 : Cond.code yX12_breaks cX12_breaks 7 (some .int) ∈ jT := jT_mem (mt_9 (List.mem_of_getElem? (i := 4) rfl)) rfl
theorem W_1405 : Cond.methodLink RL 133 yX12_breaks ∈ jT := jT_mem (mt_9 (List.mem_of_getElem? (i := 1) rfl)) rfl
theorem W_1406 : Cond.instanceMethod yX12_breaks ∈ jT := jT_mem (mt_9 (List.mem_of_getElem? (i := 2) rfl)) rfl
theorem W_1407 : Cond.selects RX12 yX12_breaks yX12_breaks ∈ jT := jT_mem (mt_9 (List.mem_of_getElem? (i := 3) rfl)) rfl
theorem W_1408 : Cond.code yX11_all cX11_all 1 (some .int) ∈ jT := jT_mem (mt_5 (List.mem_of_getElem? (i := 145) rfl)) rfl
theorem W_1409 : Cond.methodLink RL 134 yX11_all ∈ jT := jT_mem (mt_5 (List.mem_of_getElem? (i := 142) rfl)) rfl
theorem W_1410 : Cond.instanceMethod yX11_all ∈ jT := jT_mem (mt_5 (List.mem_of_getElem? (i := 143) rfl)) rfl
theorem W_1411 : Cond.selects RX11 yX11_all yX11_all ∈ jT := jT_mem (mt_5 (List.mem_of_getElem? (i := 144) rfl)) rfl
theorem W_1412 : Cond.code yX12_all cX12_all 1 (some .int) ∈ jT := jT_mem (mt_9 (List.mem_of_getElem? (i := 8) rfl)) rfl
theorem W_1413 : Cond.methodLink RL 137 yX12_all ∈ jT := jT_mem (mt_9 (List.mem_of_getElem? (i := 5) rfl)) rfl
theorem W_1414 : Cond.instanceMethod yX12_all ∈ jT := jT_mem (mt_9 (List.mem_of_getElem? (i := 6) rfl)) rfl
theorem W_1415 : Cond.selects RX12 yX12_all yX12_all ∈ jT := jT_mem (mt_9 (List.mem_of_getElem? (i := 7) rfl)) rfl
theorem W_1416 : Cond.code yX11_whole cX11_whole 3 (some .int) ∈ jT := jT_mem (mt_5 (List.mem_of_getElem? (i := 153) rfl)) rfl
theorem W_1417 : Cond.methodLink RL 138 yX11_whole ∈ jT := jT_mem (mt_5 (List.mem_of_getElem? (i := 150) rfl)) rfl
theorem W_1418 : Cond.instanceMethod yX11_whole ∈ jT := jT_mem (mt_5 (List.mem_of_getElem? (i := 151) rfl)) rfl
theorem W_1419 : Cond.selects RX11 yX11_whole yX11_whole ∈ jT := jT_mem (mt_5 (List.mem_of_getElem? (i := 152) rfl)) rfl
theorem W_1420 : Cond.code yX12_whole cX12_whole 6 (some .int) ∈ jT := jT_mem (mt_9 (List.mem_of_getElem? (i := 16) rfl)) rfl
theorem W_1421 : Cond.methodLink RL 141 yX12_whole ∈ jT := jT_mem (mt_9 (List.mem_of_getElem? (i := 13) rfl)) rfl
theorem W_1422 : Cond.instanceMethod yX12_whole ∈ jT := jT_mem (mt_9 (List.mem_of_getElem? (i := 14) rfl)) rfl
theorem W_1423 : Cond.selects RX12 yX12_whole yX12_whole ∈ jT := jT_mem (mt_9 (List.mem_of_getElem? (i := 15) rfl)) rfl
theorem W_1424 : Cond.code yX11_mends cX11_mends 3 (some .int) ∈ jT := jT_mem (mt_5 (List.mem_of_getElem? (i := 161) rfl)) rfl
theorem W_1425 : Cond.methodLink RL 142 yX11_mends ∈ jT := jT_mem (mt_5 (List.mem_of_getElem? (i := 158) rfl)) rfl
theorem W_1426 : Cond.instanceMethod yX11_mends ∈ jT := jT_mem (mt_5 (List.mem_of_getElem? (i := 159) rfl)) rfl
theorem W_1427 : Cond.selects RX11 yX11_mends yX11_mends ∈ jT := jT_mem (mt_5 (List.mem_of_getElem? (i := 160) rfl)) rfl
theorem W_1428 : Cond.code yX12_mends cX12_mends 3 (some .int) ∈ jT := jT_mem (mt_9 (List.mem_of_getElem? (i := 28) rfl)) rfl
theorem W_1429 : Cond.methodLink RL 145 yX12_mends ∈ jT := jT_mem (mt_9 (List.mem_of_getElem? (i := 25) rfl)) rfl
theorem W_1430 : Cond.instanceMethod yX12_mends ∈ jT := jT_mem (mt_9 (List.mem_of_getElem? (i := 26) rfl)) rfl
theorem W_1431 : Cond.selects RX12 yX12_mends yX12_mends ∈ jT := jT_mem (mt_9 (List.mem_of_getElem? (i := 27) rfl)) rfl
theorem W_1432 : Cond.code yX11_shut cX11_shut 2 (some .int) ∈ jT := jT_mem (mt_5 (List.mem_of_getElem? (i := 165) rfl)) rfl
theorem W_1433 : Cond.methodLink RL 146 yX11_shut ∈ jT := jT_mem (mt_5 (List.mem_of_getElem? (i := 162) rfl)) rfl
theorem W_1434 : Cond.instanceMethod yX11_shut ∈ jT := jT_mem (mt_5 (List.mem_of_getElem? (i := 163) rfl)) rfl
theorem W_1435 : Cond.selects RX11 yX11_shut yX11_shut ∈ jT := jT_mem (mt_5 (List.mem_of_getElem? (i := 164) rfl)) rfl
theorem W_1436 : Cond.code yX12_shut cX12_shut 5 (some .int) ∈ jT := jT_mem (mt_9 (List.mem_of_getElem? (i := 24) rfl)) rfl
theorem W_1437 : Cond.methodLink RL 149 yX12_shut ∈ jT := jT_mem (mt_9 (List.mem_of_getElem? (i := 21) rfl)) rfl
theorem W_1438 : Cond.instanceMethod yX12_shut ∈ jT := jT_mem (mt_9 (List.mem_of_getElem? (i := 22) rfl)) rfl
theorem W_1439 : Cond.selects RX12 yX12_shut yX12_shut ∈ jT := jT_mem (mt_9 (List.mem_of_getElem? (i := 23) rfl)) rfl
theorem W_1440 : Cond.code yX11_toll cX11_toll 4 (some .int) ∈ jT := jT_mem (mt_5 (List.mem_of_getElem? (i := 169) rfl)) rfl
theorem W_1441 : Cond.methodLink RL 150 yX11_toll ∈ jT := jT_mem (mt_5 (List.mem_of_getElem? (i := 166) rfl)) rfl
theorem W_1442 : Cond.instanceMethod yX11_toll ∈ jT := jT_mem (mt_5 (List.mem_of_getElem? (i := 167) rfl)) rfl
theorem W_1443 : Cond.selects RX11 yX11_toll yX11_toll ∈ jT := jT_mem (mt_5 (List.mem_of_getElem? (i := 168) rfl)) rfl
theorem W_1444 : Cond.code yX12_toll cX12_toll 5 (some .int) ∈ jT := jT_mem (mt_9 (List.mem_of_getElem? (i := 32) rfl)) rfl
theorem W_1445 : Cond.methodLink RL 153 yX12_toll ∈ jT := jT_mem (mt_9 (List.mem_of_getElem? (i := 29) rfl)) rfl
theorem W_1446 : Cond.instanceMethod yX12_toll ∈ jT := jT_mem (mt_9 (List.mem_of_getElem? (i := 30) rfl)) rfl
theorem W_1447 : Cond.selects RX12 yX12_toll yX12_toll ∈ jT := jT_mem (mt_9 (List.mem_of_getElem? (i := 31) rfl)) rfl
theorem W_1448 : Cond.code yX11_peace cX11_peace 6 (some .int) ∈ jT := jT_mem (mt_5 (List.mem_of_getElem? (i := 226) rfl)) rfl
theorem W_1449 : Cond.methodLink RL 154 yX11_peace ∈ jT := jT_mem (mt_5 (List.mem_of_getElem? (i := 223) rfl)) rfl
theorem W_1450 : Cond.instanceMethod yX11_peace ∈ jT := jT_mem (mt_5 (List.mem_of_getElem? (i := 224) rfl)) rfl
theorem W_1451 : Cond.selects RX11 yX11_peace yX11_peace ∈ jT := jT_mem (mt_5 (List.mem_of_getElem? (i := 225) rfl)) rfl
theorem W_1452 : Cond.code yX12_peace cX12_peace 7 (some .int) ∈ jT := jT_mem (mt_9 (List.mem_of_getElem? (i := 36) rfl)) rfl
theorem W_1453 : Cond.methodLink RL 157 yX12_peace ∈ jT := jT_mem (mt_9 (List.mem_of_getElem? (i := 33) rfl)) rfl
theorem W_1454 : Cond.instanceMethod yX12_peace ∈ jT := jT_mem (mt_9 (List.mem_of_getElem? (i := 34) rfl)) rfl
theorem W_1455 : Cond.selects RX12 yX12_peace yX12_peace ∈ jT := jT_mem (mt_9 (List.mem_of_getElem? (i := 35) rfl)) rfl
theorem W_1456 : Cond.code yX11_lamps cX11_lamps 3 (some .int) ∈ jT := jT_mem (mt_5 (List.mem_of_getElem? (i := 236) rfl)) rfl
theorem W_1457 : Cond.methodLink RL 158 yX11_lamps ∈ jT := jT_mem (mt_5 (List.mem_of_getElem? (i := 233) rfl)) rfl
theorem W_1458 : Cond.instanceMethod yX11_lamps ∈ jT := jT_mem (mt_5 (List.mem_of_getElem? (i := 234) rfl)) rfl
theorem W_1459 : Cond.selects RX11 yX11_lamps yX11_lamps ∈ jT := jT_mem (mt_5 (List.mem_of_getElem? (i := 235) rfl)) rfl
theorem W_1460 : Cond.code yX12_lamps cX12_lamps 5 (some .int) ∈ jT := jT_mem (mt_9 (List.mem_of_getElem? (i := 40) rfl)) rfl
theorem W_1461 : Cond.methodLink RL 161 yX12_lamps ∈ jT := jT_mem (mt_9 (List.mem_of_getElem? (i := 37) rfl)) rfl
theorem W_1462 : Cond.instanceMethod yX12_lamps ∈ jT := jT_mem (mt_9 (List.mem_of_getElem? (i := 38) rfl)) rfl
theorem W_1463 : Cond.selects RX12 yX12_lamps yX12_lamps ∈ jT := jT_mem (mt_9 (List.mem_of_getElem? (i := 39) rfl)) rfl
theorem W_1464 : Cond.code yX11_would cX11_would 3 (some .int) ∈ jT := jT_mem (mt_6 (List.mem_of_getElem? (i := 0) rfl)) rfl
theorem W_1465 : Cond.methodLink RL 162 yX11_would ∈ jT := jT_mem (mt_5 (List.mem_of_getElem? (i := 237) rfl)) rfl
theorem W_1466 : Cond.instanceMethod yX11_would ∈ jT := jT_mem (mt_5 (List.mem_of_getElem? (i := 238) rfl)) rfl
theorem W_1467 : Cond.selects RX11 yX11_would yX11_would ∈ jT := jT_mem (mt_5 (List.mem_of_getElem? (i := 239) rfl)) rfl
theorem W_1468 : Cond.code yX12_would cX12_would 3 (some .int) ∈ jT := jT_mem (mt_9 (List.mem_of_getElem? (i := 44) rfl)) rfl
theorem W_1469 : Cond.methodLink RL 165 yX12_would ∈ jT := jT_mem (mt_9 (List.mem_of_getElem? (i := 41) rfl)) rfl
theorem W_1470 : Cond.instanceMethod yX12_would ∈ jT := jT_mem (mt_9 (List.mem_of_getElem? (i := 42) rfl)) rfl
theorem W_1471 : Cond.selects RX12 yX12_would yX12_would ∈ jT := jT_mem (mt_9 (List.mem_of_getElem? (i := 43) rfl)) rfl
theorem W_1472 : Cond.code yX11_best cX11_best 3 (some .int) ∈ jT := jT_mem (mt_6 (List.mem_of_getElem? (i := 5) rfl)) rfl
theorem W_1473 : Cond.methodLink RL 166 yX11_best ∈ jT := jT_mem (mt_6 (List.mem_of_getElem? (i := 2) rfl)) rfl
theorem W_1474 : Cond.instanceMethod yX11_best ∈ jT := jT_mem (mt_6 (List.mem_of_getElem? (i := 3) rfl)) rfl
theorem W_1475 : Cond.selects RX11 yX11_best yX11_best ∈ jT := jT_mem (mt_6 (List.mem_of_getElem? (i := 4) rfl)) rfl
theorem W_1476 : Cond.code yX12_best cX12_best 3 (some .int) ∈ jT := jT_mem (mt_9 (List.mem_of_getElem? (i := 52) rfl)) rfl
theorem W_1477 : Cond.methodLink RL 169 yX12_best ∈ jT := jT_mem (mt_9 (List.mem_of_getElem? (i := 49) rfl)) rfl
theorem W_1478 : Cond.instanceMethod yX12_best ∈ jT := jT_mem (mt_9 (List.mem_of_getElem? (i := 50) rfl)) rfl
theorem W_1479 : Cond.selects RX12 yX12_best yX12_best ∈ jT := jT_mem (mt_9 (List.mem_of_getElem? (i := 51) rfl)) rfl
theorem W_1480 : Cond.code yX11_market cX11_market 5 (some .int) ∈ jT := jT_mem (mt_6 (List.mem_of_getElem? (i := 13) rfl)) rfl
theorem W_1481 : Cond.methodLink RL 170 yX11_market ∈ jT := jT_mem (mt_6 (List.mem_of_getElem? (i := 10) rfl)) rfl
theorem W_1482 : Cond.instanceMethod yX11_market ∈ jT := jT_mem (mt_6 (List.mem_of_getElem? (i := 11) rfl)) rfl
theorem W_1483 : Cond.selects RX11 yX11_market yX11_market ∈ jT := jT_mem (mt_6 (List.mem_of_getElem? (i := 12) rfl)) rfl
theorem W_1484 : Cond.code yX12_market cX12_market 8 (some .int) ∈ jT := jT_mem (mt_9 (List.mem_of_getElem? (i := 60) rfl)) rfl
theorem W_1485 : Cond.methodLink RL 173 yX12_market ∈ jT := jT_mem (mt_9 (List.mem_of_getElem? (i := 57) rfl)) rfl
theorem W_1486 : Cond.instanceMethod yX12_market ∈ jT := jT_mem (mt_9 (List.mem_of_getElem? (i := 58) rfl)) rfl
theorem W_1487 : Cond.selects RX12 yX12_market yX12_market ∈ jT := jT_mem (mt_9 (List.mem_of_getElem? (i := 59) rfl)) rfl
theorem W_1488 : Cond.code yX11_parts cX11_parts 3 (some .int) ∈ jT := jT_mem (mt_6 (List.mem_of_getElem? (i := 31) rfl)) rfl
theorem W_1489 : Cond.methodLink RL 174 yX11_parts ∈ jT := jT_mem (mt_6 (List.mem_of_getElem? (i := 28) rfl)) rfl
theorem W_1490 : Cond.instanceMethod yX11_parts ∈ jT := jT_mem (mt_6 (List.mem_of_getElem? (i := 29) rfl)) rfl
theorem W_1491 : Cond.selects RX11 yX11_parts yX11_parts ∈ jT := jT_mem (mt_6 (List.mem_of_getElem? (i := 30) rfl)) rfl
theorem W_1492 : Cond.code yX12_parts cX12_parts 3 (some .int) ∈ jT := jT_mem (mt_9 (List.mem_of_getElem? (i := 64) rfl)) rfl
theorem W_1493 : Cond.methodLink RL 177 yX12_parts ∈ jT := jT_mem (mt_9 (List.mem_of_getElem? (i := 61) rfl)) rfl
theorem W_1494 : Cond.instanceMethod yX12_parts ∈ jT := jT_mem (mt_9 (List.mem_of_getElem? (i := 62) rfl)) rfl
theorem W_1495 : Cond.selects RX12 yX12_parts yX12_parts ∈ jT := jT_mem (mt_9 (List.mem_of_getElem? (i := 63) rfl)) rfl
theorem W_1496 : Cond.code yX11_sells cX11_sells 7 (some .int) ∈ jT := jT_mem (mt_6 (List.mem_of_getElem? (i := 36) rfl)) rfl
theorem W_1497 : Cond.methodLink RL 178 yX11_sells ∈ jT := jT_mem (mt_6 (List.mem_of_getElem? (i := 33) rfl)) rfl
theorem W_1498 : Cond.instanceMethod yX11_sells ∈ jT := jT_mem (mt_6 (List.mem_of_getElem? (i := 34) rfl)) rfl
theorem W_1499 : Cond.selects RX11 yX11_sells yX11_sells ∈ jT := jT_mem (mt_6 (List.mem_of_getElem? (i := 35) rfl)) rfl
theorem W_1500 : Cond.code yX12_sells cX12_sells 8 (some .int) ∈ jT := jT_mem (mt_9 (List.mem_of_getElem? (i := 68) rfl)) rfl
theorem W_1501 : Cond.methodLink RL 182 yX12_sells ∈ jT := jT_mem (mt_9 (List.mem_of_getElem? (i := 65) rfl)) rfl
theorem W_1502 : Cond.instanceMethod yX12_sells ∈ jT := jT_mem (mt_9 (List.mem_of_getElem? (i := 66) rfl)) rfl
theorem W_1503 : Cond.selects RX12 yX12_sells yX12_sells ∈ jT := jT_mem (mt_9 (List.mem_of_getElem? (i := 67) rfl)) rfl
theorem W_1504 : Cond.code yX11_dies cX11_dies 5 (some .int) ∈ jT := jT_mem (mt_6 (List.mem_of_getElem? (i := 49) rfl)) rfl
theorem W_1505 : Cond.methodLink RL 183 yX11_dies ∈ jT := jT_mem (mt_6 (List.mem_of_getElem? (i := 46) rfl)) rfl
theorem W_1506 : Cond.instanceMethod yX11_dies ∈ jT := jT_mem (mt_6 (List.mem_of_getElem? (i := 47) rfl)) rfl
theorem W_1507 : Cond.selects RX11 yX11_dies yX11_dies ∈ jT := jT_mem (mt_6 (List.mem_of_getElem? (i := 48) rfl)) rfl
theorem W_1508 : Cond.code yX12_dies cX12_dies 9 (some .int) ∈ jT := jT_mem (mt_9 (List.mem_of_getElem? (i := 76) rfl)) rfl
theorem W_1509 : Cond.methodLink RL 186 yX12_dies ∈ jT := jT_mem (mt_9 (List.mem_of_getElem? (i := 73) rfl)) rfl
theorem W_1510 : Cond.instanceMethod yX12_dies ∈ jT := jT_mem (mt_9 (List.mem_of_getElem? (i := 74) rfl)) rfl
theorem W_1511 : Cond.selects RX12 yX12_dies yX12_dies ∈ jT := jT_mem (mt_9 (List.mem_of_getElem? (i := 75) rfl)) rfl
theorem W_1512 : Cond.code yX11_undo cX11_undo 1 (some .int) ∈ jT := jT_mem (mt_6 (List.mem_of_getElem? (i := 64) rfl)) rfl
theorem W_1513 : Cond.methodLink RL 187 yX11_undo ∈ jT := jT_mem (mt_6 (List.mem_of_getElem? (i := 61) rfl)) rfl
theorem W_1514 : Cond.instanceMethod yX11_undo ∈ jT := jT_mem (mt_6 (List.mem_of_getElem? (i := 62) rfl)) rfl
theorem W_1515 : Cond.selects RX11 yX11_undo yX11_undo ∈ jT := jT_mem (mt_6 (List.mem_of_getElem? (i := 63) rfl)) rfl
theorem W_1516 : Cond.code yX12_undo cX12_undo 2 (some .int) ∈ jT := jT_mem (mt_9 (List.mem_of_getElem? (i := 81) rfl)) rfl
theorem W_1517 : Cond.methodLink RL 190 yX12_undo ∈ jT := jT_mem (mt_9 (List.mem_of_getElem? (i := 78) rfl)) rfl
theorem W_1518 : Cond.instanceMethod yX12_undo ∈ jT := jT_mem (mt_9 (List.mem_of_getElem? (i := 79) rfl)) rfl
theorem W_1519 : Cond.selects RX12 yX12_undo yX12_undo ∈ jT := jT_mem (mt_9 (List.mem_of_getElem? (i := 80) rfl)) rfl
theorem W_1520 : Cond.code yX11_rail cX11_rail 4 (some .int) ∈ jT := jT_mem (mt_6 (List.mem_of_getElem? (i := 72) rfl)) rfl
theorem W_1521 : Cond.methodLink RL 191 yX11_rail ∈ jT := jT_mem (mt_6 (List.mem_of_getElem? (i := 69) rfl)) rfl
theorem W_1522 : Cond.instanceMethod yX11_rail ∈ jT := jT_mem (mt_6 (List.mem_of_getElem? (i := 70) rfl)) rfl
theorem W_1523 : Cond.selects RX11 yX11_rail yX11_rail ∈ jT := jT_mem (mt_6 (List.mem_of_getElem? (i := 71) rfl)) rfl
theorem W_1524 : Cond.code yX12_rail cX12_rail 4 (some .int) ∈ jT := jT_mem (mt_9 (List.mem_of_getElem? (i := 85) rfl)) rfl
theorem W_1525 : Cond.methodLink RL 194 yX12_rail ∈ jT := jT_mem (mt_9 (List.mem_of_getElem? (i := 82) rfl)) rfl
theorem W_1526 : Cond.instanceMethod yX12_rail ∈ jT := jT_mem (mt_9 (List.mem_of_getElem? (i := 83) rfl)) rfl
theorem W_1527 : Cond.selects RX12 yX12_rail yX12_rail ∈ jT := jT_mem (mt_9 (List.mem_of_getElem? (i := 84) rfl)) rfl
theorem W_1528 : Cond.code yX11_rules cX11_rules 4 (some .int) ∈ jT := jT_mem (mt_6 (List.mem_of_getElem? (i := 81) rfl)) rfl
theorem W_1529 : Cond.methodLink RL 195 yX11_rules ∈ jT := jT_mem (mt_6 (List.mem_of_getElem? (i := 78) rfl)) rfl
theorem W_1530 : Cond.instanceMethod yX11_rules ∈ jT := jT_mem (mt_6 (List.mem_of_getElem? (i := 79) rfl)) rfl
theorem W_1531 : Cond.selects RX11 yX11_rules yX11_rules ∈ jT := jT_mem (mt_6 (List.mem_of_getElem? (i := 80) rfl)) rfl
theorem W_1532 : Cond.code yX12_rules cX12_rules 7 (some .int) ∈ jT := jT_mem (mt_9 (List.mem_of_getElem? (i := 89) rfl)) rfl
theorem W_1533 : Cond.methodLink RL 198 yX12_rules ∈ jT := jT_mem (mt_9 (List.mem_of_getElem? (i := 86) rfl)) rfl
theorem W_1534 : Cond.instanceMethod yX12_rules ∈ jT := jT_mem (mt_9 (List.mem_of_getElem? (i := 87) rfl)) rfl
theorem W_1535 : Cond.selects RX12 yX12_rules yX12_rules ∈ jT := jT_mem (mt_9 (List.mem_of_getElem? (i := 88) rfl)) rfl
theorem W_1536 : Cond.code yX11_feast cX11_feast 3 (some .int) ∈ jT := jT_mem (mt_6 (List.mem_of_getElem? (i := 94) rfl)) rfl
theorem W_1537 : Cond.methodLink RL 199 yX11_feast ∈ jT := jT_mem (mt_6 (List.mem_of_getElem? (i := 91) rfl)) rfl
theorem W_1538 : Cond.instanceMethod yX11_feast ∈ jT := jT_mem (mt_6 (List.mem_of_getElem? (i := 92) rfl)) rfl
theorem W_1539 : Cond.selects RX11 yX11_feast yX11_feast ∈ jT := jT_mem (mt_6 (List.mem_of_getElem? (i := 93) rfl)) rfl
theorem W_1540 : Cond.code yX12_feast cX12_feast 6 (some .int) ∈ jT := jT_mem (mt_9 (List.mem_of_getElem? (i := 93) rfl)) rfl
theorem W_1541 : Cond.methodLink RL 202 yX12_feast ∈ jT := jT_mem (mt_9 (List.mem_of_getElem? (i := 90) rfl)) rfl
theorem W_1542 : Cond.instanceMethod yX12_feast ∈ jT := jT_mem (mt_9 (List.mem_of_getElem? (i := 91) rfl)) rfl
theorem W_1543 : Cond.selects RX12 yX12_feast yX12_feast ∈ jT := jT_mem (mt_9 (List.mem_of_getElem? (i := 92) rfl)) rfl
theorem W_1544 : Cond.code yX11_jam cX11_jam 3 (some .int) ∈ jT := jT_mem (mt_6 (List.mem_of_getElem? (i := 130) rfl)) rfl
theorem W_1545 : Cond.methodLink RL 203 yX11_jam ∈ jT := jT_mem (mt_6 (List.mem_of_getElem? (i := 127) rfl)) rfl
theorem W_1546 : Cond.instanceMethod yX11_jam ∈ jT := jT_mem (mt_6 (List.mem_of_getElem? (i := 128) rfl)) rfl
theorem W_1547 : Cond.selects RX11 yX11_jam yX11_jam ∈ jT := jT_mem (mt_6 (List.mem_of_getElem? (i := 129) rfl)) rfl
theorem W_1548 : Cond.code yX12_jam cX12_jam 3 (some .int) ∈ jT := jT_mem (mt_9 (List.mem_of_getElem? (i := 109) rfl)) rfl
theorem W_1549 : Cond.methodLink RL 206 yX12_jam ∈ jT := jT_mem (mt_9 (List.mem_of_getElem? (i := 106) rfl)) rfl
theorem W_1550 : Cond.instanceMethod yX12_jam ∈ jT := jT_mem (mt_9 (List.mem_of_getElem? (i := 107) rfl)) rfl
theorem W_1551 : Cond.selects RX12 yX12_jam yX12_jam ∈ jT := jT_mem (mt_9 (List.mem_of_getElem? (i := 108) rfl)) rfl
theorem W_1552 : Cond.code yX11_keep cX11_keep 5 (some .boolean) ∈ jT := jT_mem (mt_6 (List.mem_of_getElem? (i := 134) rfl)) rfl
theorem W_1553 : Cond.methodLink RL 207 yX11_keep ∈ jT := jT_mem (mt_6 (List.mem_of_getElem? (i := 131) rfl)) rfl
theorem W_1554 : Cond.instanceMethod yX11_keep ∈ jT := jT_mem (mt_6 (List.mem_of_getElem? (i := 132) rfl)) rfl
theorem W_1555 : Cond.selects RX11 yX11_keep yX11_keep ∈ jT := jT_mem (mt_6 (List.mem_of_getElem? (i := 133) rfl)) rfl
theorem W_1556 : Cond.code yX12_keep cX12_keep 3 (some .boolean) ∈ jT := jT_mem (mt_9 (List.mem_of_getElem? (i := 113) rfl)) rfl
theorem W_1557 : Cond.methodLink RL 210 yX12_keep ∈ jT := jT_mem (mt_9 (List.mem_of_getElem? (i := 110) rfl)) rfl
theorem W_1558 : Cond.instanceMethod yX12_keep ∈ jT := jT_mem (mt_9 (List.mem_of_getElem? (i := 111) rfl)) rfl
theorem W_1559 : Cond.selects RX12 yX12_keep yX12_keep ∈ jT := jT_mem (mt_9 (List.mem_of_getElem? (i := 112) rfl)) rfl
theorem W_1560 : Cond.code yX11_again cX11_again 5 (some .boolean) ∈ jT := jT_mem (mt_6 (List.mem_of_getElem? (i := 147) rfl)) rfl
theorem W_1561 : Cond.methodLink RL 211 yX11_again ∈ jT := jT_mem (mt_6 (List.mem_of_getElem? (i := 144) rfl)) rfl
theorem W_1562 : Cond.instanceMethod yX11_again ∈ jT := jT_mem (mt_6 (List.mem_of_getElem? (i := 145) rfl)) rfl
theorem W_1563 : Cond.selects RX11 yX11_again yX11_again ∈ jT := jT_mem (mt_6 (List.mem_of_getElem? (i := 146) rfl)) rfl
theorem W_1564 : Cond.code yX12_again cX12_again 6 (some .boolean) ∈ jT := jT_mem (mt_9 (List.mem_of_getElem? (i := 121) rfl)) rfl
theorem W_1565 : Cond.methodLink RL 214 yX12_again ∈ jT := jT_mem (mt_9 (List.mem_of_getElem? (i := 118) rfl)) rfl
theorem W_1566 : Cond.instanceMethod yX12_again ∈ jT := jT_mem (mt_9 (List.mem_of_getElem? (i := 119) rfl)) rfl
theorem W_1567 : Cond.selects RX12 yX12_again yX12_again ∈ jT := jT_mem (mt_9 (List.mem_of_getElem? (i := 120) rfl)) rfl
theorem W_1568 : Cond.code yX11_count cX11_count 2 (some .int) ∈ jT := jT_mem (mt_6 (List.mem_of_getElem? (i := 163) rfl)) rfl
theorem W_1569 : Cond.methodLink RL 215 yX11_count ∈ jT := jT_mem (mt_6 (List.mem_of_getElem? (i := 160) rfl)) rfl
theorem W_1570 : Cond.instanceMethod yX11_count ∈ jT := jT_mem (mt_6 (List.mem_of_getElem? (i := 161) rfl)) rfl
theorem W_1571 : Cond.selects RX11 yX11_count yX11_count ∈ jT := jT_mem (mt_6 (List.mem_of_getElem? (i := 162) rfl)) rfl
theorem W_1572 : Cond.code yX12_count cX12_count 5 (some .int) ∈ jT := jT_mem (mt_9 (List.mem_of_getElem? (i := 129) rfl)) rfl
theorem W_1573 : Cond.methodLink RL 218 yX12_count ∈ jT := jT_mem (mt_9 (List.mem_of_getElem? (i := 126) rfl)) rfl
theorem W_1574 : Cond.instanceMethod yX12_count ∈ jT := jT_mem (mt_9 (List.mem_of_getElem? (i := 127) rfl)) rfl
theorem W_1575 : Cond.selects RX12 yX12_count yX12_count ∈ jT := jT_mem (mt_9 (List.mem_of_getElem? (i := 128) rfl)) rfl
theorem W_1576 : Cond.methodLink RL 219 yL_row ∈ jT := jT_mem (mt_7 (List.mem_of_getElem? (i := 17) rfl)) rfl
theorem W_1577 : Cond.static yL_row ∈ jT := jT_mem (mt_7 (List.mem_of_getElem? (i := 18) rfl)) rfl
theorem W_1578 : Cond.codeWith yL_row cL_row 4 (some .int) [(0, 8, 11, 13)] ∈ jT := jT_mem (mt_7 (List.mem_of_getElem? (i := 19) rfl)) rfl
theorem W_1579 : Cond.code yX12_row cX12_row 2 (some .long) ∈ jT := jT_mem (mt_9 (List.mem_of_getElem? (i := 133) rfl)) rfl
theorem W_1580 : Cond.methodLink RL 222 yX12_row ∈ jT := jT_mem (mt_9 (List.mem_of_getElem? (i := 130) rfl)) rfl
theorem W_1581 : Cond.instanceMethod yX12_row ∈ jT := jT_mem (mt_9 (List.mem_of_getElem? (i := 131) rfl)) rfl
theorem W_1582 : Cond.selects RX12 yX12_row yX12_row ∈ jT := jT_mem (mt_9 (List.mem_of_getElem? (i := 132) rfl)) rfl
theorem W_1583 : Cond.classLink RL 8 RX11 ∈ jT := jT_mem (mt_1 (List.mem_of_getElem? (i := 27) rfl)) rfl
theorem W_1584 : Cond.instantiable RX11 17 ∈ jT := jT_mem (mt_1 (List.mem_of_getElem? (i := 28) rfl)) rfl
theorem W_1585 : Cond.code yX11_init cX11_init 1 none ∈ jT := jT_mem (mt_1 (List.mem_of_getElem? (i := 31) rfl)) rfl
theorem W_1586 : Cond.methodLink RL 22 yX11_init ∈ jT := jT_mem (mt_1 (List.mem_of_getElem? (i := 29) rfl)) rfl
theorem W_1587 : Cond.instanceMethod yX11_init ∈ jT := jT_mem (mt_1 (List.mem_of_getElem? (i := 30) rfl)) rfl
theorem W_1588 : Cond.classLink RL 23 RX12 ∈ jT := jT_mem (mt_7 (List.mem_of_getElem? (i := 25) rfl)) rfl
theorem W_1589 : Cond.instantiable RX12 67 ∈ jT := jT_mem (mt_7 (List.mem_of_getElem? (i := 26) rfl)) rfl
theorem W_1590 : Cond.code yX12_init cX12_init 1 none ∈ jT := jT_mem (mt_7 (List.mem_of_getElem? (i := 29) rfl)) rfl
theorem W_1591 : Cond.methodLink RL 25 yX12_init ∈ jT := jT_mem (mt_7 (List.mem_of_getElem? (i := 27) rfl)) rfl
theorem W_1592 : Cond.instanceMethod yX12_init ∈ jT := jT_mem (mt_7 (List.mem_of_getElem? (i := 28) rfl)) rfl
theorem fy_L_of : yL_of.cls ≠ "java/lang/invoke/MethodHandle" ∧ yL_of.cls ≠ "java/lang/invoke/VarHandle" ∧ (parseMethodDescriptor yL_of.desc).map (fun d => d.parameters.length) = some 4 := by decide +kernel
theorem fy_L_row : yL_row.cls ≠ "java/lang/invoke/MethodHandle" ∧ yL_row.cls ≠ "java/lang/invoke/VarHandle" ∧ (parseMethodDescriptor yL_row.desc).map (fun d => d.parameters.length) = some 3 := by decide +kernel
theorem fy_L_step : yL_step.cls ≠ "java/lang/invoke/MethodHandle" ∧ yL_step.cls ≠ "java/lang/invoke/VarHandle" ∧ (parseMethodDescriptor yL_step.desc).map (fun d => d.parameters.length) = some 4 := by decide +kernel
theorem fy_X11_again : yX11_again.cls ≠ "java/lang/invoke/MethodHandle" ∧ yX11_again.cls ≠ "java/lang/invoke/VarHandle" ∧ (parseMethodDescriptor yX11_again.desc).map (fun d => d.parameters.length) = some 1 := by decide +kernel
theorem fy_X11_all : yX11_all.cls ≠ "java/lang/invoke/MethodHandle" ∧ yX11_all.cls ≠ "java/lang/invoke/VarHandle" ∧ (parseMethodDescriptor yX11_all.desc).map (fun d => d.parameters.length) = some 0 := by decide +kernel
theorem fy_X11_bears : yX11_bears.cls ≠ "java/lang/invoke/MethodHandle" ∧ yX11_bears.cls ≠ "java/lang/invoke/VarHandle" ∧ (parseMethodDescriptor yX11_bears.desc).map (fun d => d.parameters.length) = some 1 := by decide +kernel
theorem fy_X11_best : yX11_best.cls ≠ "java/lang/invoke/MethodHandle" ∧ yX11_best.cls ≠ "java/lang/invoke/VarHandle" ∧ (parseMethodDescriptor yX11_best.desc).map (fun d => d.parameters.length) = some 1 := by decide +kernel
theorem fy_X11_breaks : yX11_breaks.cls ≠ "java/lang/invoke/MethodHandle" ∧ yX11_breaks.cls ≠ "java/lang/invoke/VarHandle" ∧ (parseMethodDescriptor yX11_breaks.desc).map (fun d => d.parameters.length) = some 1 := by decide +kernel
theorem fy_X11_climb : yX11_climb.cls ≠ "java/lang/invoke/MethodHandle" ∧ yX11_climb.cls ≠ "java/lang/invoke/VarHandle" ∧ (parseMethodDescriptor yX11_climb.desc).map (fun d => d.parameters.length) = some 1 := by decide +kernel
theorem fy_X11_costs : yX11_costs.cls ≠ "java/lang/invoke/MethodHandle" ∧ yX11_costs.cls ≠ "java/lang/invoke/VarHandle" ∧ (parseMethodDescriptor yX11_costs.desc).map (fun d => d.parameters.length) = some 2 := by decide +kernel
theorem fy_X11_count : yX11_count.cls ≠ "java/lang/invoke/MethodHandle" ∧ yX11_count.cls ≠ "java/lang/invoke/VarHandle" ∧ (parseMethodDescriptor yX11_count.desc).map (fun d => d.parameters.length) = some 1 := by decide +kernel
theorem fy_X11_dies : yX11_dies.cls ≠ "java/lang/invoke/MethodHandle" ∧ yX11_dies.cls ≠ "java/lang/invoke/VarHandle" ∧ (parseMethodDescriptor yX11_dies.desc).map (fun d => d.parameters.length) = some 2 := by decide +kernel
theorem fy_X11_earned : yX11_earned.cls ≠ "java/lang/invoke/MethodHandle" ∧ yX11_earned.cls ≠ "java/lang/invoke/VarHandle" ∧ (parseMethodDescriptor yX11_earned.desc).map (fun d => d.parameters.length) = some 1 := by decide +kernel
theorem fy_X11_end : yX11_end.cls ≠ "java/lang/invoke/MethodHandle" ∧ yX11_end.cls ≠ "java/lang/invoke/VarHandle" ∧ (parseMethodDescriptor yX11_end.desc).map (fun d => d.parameters.length) = some 1 := by decide +kernel
theorem fy_X11_feast : yX11_feast.cls ≠ "java/lang/invoke/MethodHandle" ∧ yX11_feast.cls ≠ "java/lang/invoke/VarHandle" ∧ (parseMethodDescriptor yX11_feast.desc).map (fun d => d.parameters.length) = some 1 := by decide +kernel
theorem fy_X11_feud : yX11_feud.cls ≠ "java/lang/invoke/MethodHandle" ∧ yX11_feud.cls ≠ "java/lang/invoke/VarHandle" ∧ (parseMethodDescriptor yX11_feud.desc).map (fun d => d.parameters.length) = some 3 := by decide +kernel
theorem fy_X11_init : yX11_init.cls ≠ "java/lang/invoke/MethodHandle" ∧ yX11_init.cls ≠ "java/lang/invoke/VarHandle" ∧ (parseMethodDescriptor yX11_init.desc).map (fun d => d.parameters.length) = some 0 := by decide +kernel
theorem fy_X11_jam : yX11_jam.cls ≠ "java/lang/invoke/MethodHandle" ∧ yX11_jam.cls ≠ "java/lang/invoke/VarHandle" ∧ (parseMethodDescriptor yX11_jam.desc).map (fun d => d.parameters.length) = some 0 := by decide +kernel
theorem fy_X11_keep : yX11_keep.cls ≠ "java/lang/invoke/MethodHandle" ∧ yX11_keep.cls ≠ "java/lang/invoke/VarHandle" ∧ (parseMethodDescriptor yX11_keep.desc).map (fun d => d.parameters.length) = some 1 := by decide +kernel
theorem fy_X11_knees : yX11_knees.cls ≠ "java/lang/invoke/MethodHandle" ∧ yX11_knees.cls ≠ "java/lang/invoke/VarHandle" ∧ (parseMethodDescriptor yX11_knees.desc).map (fun d => d.parameters.length) = some 1 := by decide +kernel
theorem fy_X11_lamps : yX11_lamps.cls ≠ "java/lang/invoke/MethodHandle" ∧ yX11_lamps.cls ≠ "java/lang/invoke/VarHandle" ∧ (parseMethodDescriptor yX11_lamps.desc).map (fun d => d.parameters.length) = some 1 := by decide +kernel
theorem fy_X11_law : yX11_law.cls ≠ "java/lang/invoke/MethodHandle" ∧ yX11_law.cls ≠ "java/lang/invoke/VarHandle" ∧ (parseMethodDescriptor yX11_law.desc).map (fun d => d.parameters.length) = some 1 := by decide +kernel
theorem fy_X11_market : yX11_market.cls ≠ "java/lang/invoke/MethodHandle" ∧ yX11_market.cls ≠ "java/lang/invoke/VarHandle" ∧ (parseMethodDescriptor yX11_market.desc).map (fun d => d.parameters.length) = some 1 := by decide +kernel
theorem fy_X11_mends : yX11_mends.cls ≠ "java/lang/invoke/MethodHandle" ∧ yX11_mends.cls ≠ "java/lang/invoke/VarHandle" ∧ (parseMethodDescriptor yX11_mends.desc).map (fun d => d.parameters.length) = some 1 := by decide +kernel
theorem fy_X11_next : yX11_next.cls ≠ "java/lang/invoke/MethodHandle" ∧ yX11_next.cls ≠ "java/lang/invoke/VarHandle" ∧ (parseMethodDescriptor yX11_next.desc).map (fun d => d.parameters.length) = some 2 := by decide +kernel
theorem fy_X11_parts : yX11_parts.cls ≠ "java/lang/invoke/MethodHandle" ∧ yX11_parts.cls ≠ "java/lang/invoke/VarHandle" ∧ (parseMethodDescriptor yX11_parts.desc).map (fun d => d.parameters.length) = some 2 := by decide +kernel
theorem fy_X11_peace : yX11_peace.cls ≠ "java/lang/invoke/MethodHandle" ∧ yX11_peace.cls ≠ "java/lang/invoke/VarHandle" ∧ (parseMethodDescriptor yX11_peace.desc).map (fun d => d.parameters.length) = some 0 := by decide +kernel
theorem fy_X11_pilgrim : yX11_pilgrim.cls ≠ "java/lang/invoke/MethodHandle" ∧ yX11_pilgrim.cls ≠ "java/lang/invoke/VarHandle" ∧ (parseMethodDescriptor yX11_pilgrim.desc).map (fun d => d.parameters.length) = some 4 := by decide +kernel
theorem fy_X11_rail : yX11_rail.cls ≠ "java/lang/invoke/MethodHandle" ∧ yX11_rail.cls ≠ "java/lang/invoke/VarHandle" ∧ (parseMethodDescriptor yX11_rail.desc).map (fun d => d.parameters.length) = some 1 := by decide +kernel
theorem fy_X11_rests : yX11_rests.cls ≠ "java/lang/invoke/MethodHandle" ∧ yX11_rests.cls ≠ "java/lang/invoke/VarHandle" ∧ (parseMethodDescriptor yX11_rests.desc).map (fun d => d.parameters.length) = some 2 := by decide +kernel
theorem fy_X11_returns : yX11_returns.cls ≠ "java/lang/invoke/MethodHandle" ∧ yX11_returns.cls ≠ "java/lang/invoke/VarHandle" ∧ (parseMethodDescriptor yX11_returns.desc).map (fun d => d.parameters.length) = some 1 := by decide +kernel
theorem fy_X11_rules : yX11_rules.cls ≠ "java/lang/invoke/MethodHandle" ∧ yX11_rules.cls ≠ "java/lang/invoke/VarHandle" ∧ (parseMethodDescriptor yX11_rules.desc).map (fun d => d.parameters.length) = some 2 := by decide +kernel
theorem fy_X11_sells : yX11_sells.cls ≠ "java/lang/invoke/MethodHandle" ∧ yX11_sells.cls ≠ "java/lang/invoke/VarHandle" ∧ (parseMethodDescriptor yX11_sells.desc).map (fun d => d.parameters.length) = some 5 := by decide +kernel
theorem fy_X11_set : yX11_set.cls ≠ "java/lang/invoke/MethodHandle" ∧ yX11_set.cls ≠ "java/lang/invoke/VarHandle" ∧ (parseMethodDescriptor yX11_set.desc).map (fun d => d.parameters.length) = some 3 := by decide +kernel
theorem fy_X11_sheet : yX11_sheet.cls ≠ "java/lang/invoke/MethodHandle" ∧ yX11_sheet.cls ≠ "java/lang/invoke/VarHandle" ∧ (parseMethodDescriptor yX11_sheet.desc).map (fun d => d.parameters.length) = some 4 := by decide +kernel
theorem fy_X11_shut : yX11_shut.cls ≠ "java/lang/invoke/MethodHandle" ∧ yX11_shut.cls ≠ "java/lang/invoke/VarHandle" ∧ (parseMethodDescriptor yX11_shut.desc).map (fun d => d.parameters.length) = some 1 := by decide +kernel
theorem fy_X11_sign : yX11_sign.cls ≠ "java/lang/invoke/MethodHandle" ∧ yX11_sign.cls ≠ "java/lang/invoke/VarHandle" ∧ (parseMethodDescriptor yX11_sign.desc).map (fun d => d.parameters.length) = some 1 := by decide +kernel
theorem fy_X11_stairs : yX11_stairs.cls ≠ "java/lang/invoke/MethodHandle" ∧ yX11_stairs.cls ≠ "java/lang/invoke/VarHandle" ∧ (parseMethodDescriptor yX11_stairs.desc).map (fun d => d.parameters.length) = some 0 := by decide +kernel
theorem fy_X11_toll : yX11_toll.cls ≠ "java/lang/invoke/MethodHandle" ∧ yX11_toll.cls ≠ "java/lang/invoke/VarHandle" ∧ (parseMethodDescriptor yX11_toll.desc).map (fun d => d.parameters.length) = some 1 := by decide +kernel
theorem fy_X11_tread : yX11_tread.cls ≠ "java/lang/invoke/MethodHandle" ∧ yX11_tread.cls ≠ "java/lang/invoke/VarHandle" ∧ (parseMethodDescriptor yX11_tread.desc).map (fun d => d.parameters.length) = some 2 := by decide +kernel
theorem fy_X11_trod : yX11_trod.cls ≠ "java/lang/invoke/MethodHandle" ∧ yX11_trod.cls ≠ "java/lang/invoke/VarHandle" ∧ (parseMethodDescriptor yX11_trod.desc).map (fun d => d.parameters.length) = some 3 := by decide +kernel
theorem fy_X11_undo : yX11_undo.cls ≠ "java/lang/invoke/MethodHandle" ∧ yX11_undo.cls ≠ "java/lang/invoke/VarHandle" ∧ (parseMethodDescriptor yX11_undo.desc).map (fun d => d.parameters.length) = some 0 := by decide +kernel
theorem fy_X11_vow : yX11_vow.cls ≠ "java/lang/invoke/MethodHandle" ∧ yX11_vow.cls ≠ "java/lang/invoke/VarHandle" ∧ (parseMethodDescriptor yX11_vow.desc).map (fun d => d.parameters.length) = some 2 := by decide +kernel
theorem fy_X11_ways : yX11_ways.cls ≠ "java/lang/invoke/MethodHandle" ∧ yX11_ways.cls ≠ "java/lang/invoke/VarHandle" ∧ (parseMethodDescriptor yX11_ways.desc).map (fun d => d.parameters.length) = some 2 := by decide +kernel
theorem fy_X11_wears : yX11_wears.cls ≠ "java/lang/invoke/MethodHandle" ∧ yX11_wears.cls ≠ "java/lang/invoke/VarHandle" ∧ (parseMethodDescriptor yX11_wears.desc).map (fun d => d.parameters.length) = some 1 := by decide +kernel
theorem fy_X11_who : yX11_who.cls ≠ "java/lang/invoke/MethodHandle" ∧ yX11_who.cls ≠ "java/lang/invoke/VarHandle" ∧ (parseMethodDescriptor yX11_who.desc).map (fun d => d.parameters.length) = some 2 := by decide +kernel
theorem fy_X11_whole : yX11_whole.cls ≠ "java/lang/invoke/MethodHandle" ∧ yX11_whole.cls ≠ "java/lang/invoke/VarHandle" ∧ (parseMethodDescriptor yX11_whole.desc).map (fun d => d.parameters.length) = some 1 := by decide +kernel
theorem fy_X11_would : yX11_would.cls ≠ "java/lang/invoke/MethodHandle" ∧ yX11_would.cls ≠ "java/lang/invoke/VarHandle" ∧ (parseMethodDescriptor yX11_would.desc).map (fun d => d.parameters.length) = some 2 := by decide +kernel
theorem fy_X12_again : yX12_again.cls ≠ "java/lang/invoke/MethodHandle" ∧ yX12_again.cls ≠ "java/lang/invoke/VarHandle" ∧ (parseMethodDescriptor yX12_again.desc).map (fun d => d.parameters.length) = some 1 := by decide +kernel
theorem fy_X12_all : yX12_all.cls ≠ "java/lang/invoke/MethodHandle" ∧ yX12_all.cls ≠ "java/lang/invoke/VarHandle" ∧ (parseMethodDescriptor yX12_all.desc).map (fun d => d.parameters.length) = some 0 := by decide +kernel
theorem fy_X12_bears : yX12_bears.cls ≠ "java/lang/invoke/MethodHandle" ∧ yX12_bears.cls ≠ "java/lang/invoke/VarHandle" ∧ (parseMethodDescriptor yX12_bears.desc).map (fun d => d.parameters.length) = some 1 := by decide +kernel
theorem fy_X12_best : yX12_best.cls ≠ "java/lang/invoke/MethodHandle" ∧ yX12_best.cls ≠ "java/lang/invoke/VarHandle" ∧ (parseMethodDescriptor yX12_best.desc).map (fun d => d.parameters.length) = some 1 := by decide +kernel
theorem fy_X12_breaks : yX12_breaks.cls ≠ "java/lang/invoke/MethodHandle" ∧ yX12_breaks.cls ≠ "java/lang/invoke/VarHandle" ∧ (parseMethodDescriptor yX12_breaks.desc).map (fun d => d.parameters.length) = some 1 := by decide +kernel
theorem fy_X12_climb : yX12_climb.cls ≠ "java/lang/invoke/MethodHandle" ∧ yX12_climb.cls ≠ "java/lang/invoke/VarHandle" ∧ (parseMethodDescriptor yX12_climb.desc).map (fun d => d.parameters.length) = some 1 := by decide +kernel
theorem fy_X12_costs : yX12_costs.cls ≠ "java/lang/invoke/MethodHandle" ∧ yX12_costs.cls ≠ "java/lang/invoke/VarHandle" ∧ (parseMethodDescriptor yX12_costs.desc).map (fun d => d.parameters.length) = some 2 := by decide +kernel
theorem fy_X12_count : yX12_count.cls ≠ "java/lang/invoke/MethodHandle" ∧ yX12_count.cls ≠ "java/lang/invoke/VarHandle" ∧ (parseMethodDescriptor yX12_count.desc).map (fun d => d.parameters.length) = some 1 := by decide +kernel
theorem fy_X12_dies : yX12_dies.cls ≠ "java/lang/invoke/MethodHandle" ∧ yX12_dies.cls ≠ "java/lang/invoke/VarHandle" ∧ (parseMethodDescriptor yX12_dies.desc).map (fun d => d.parameters.length) = some 2 := by decide +kernel
theorem fy_X12_earned : yX12_earned.cls ≠ "java/lang/invoke/MethodHandle" ∧ yX12_earned.cls ≠ "java/lang/invoke/VarHandle" ∧ (parseMethodDescriptor yX12_earned.desc).map (fun d => d.parameters.length) = some 1 := by decide +kernel
theorem fy_X12_end : yX12_end.cls ≠ "java/lang/invoke/MethodHandle" ∧ yX12_end.cls ≠ "java/lang/invoke/VarHandle" ∧ (parseMethodDescriptor yX12_end.desc).map (fun d => d.parameters.length) = some 1 := by decide +kernel
theorem fy_X12_feast : yX12_feast.cls ≠ "java/lang/invoke/MethodHandle" ∧ yX12_feast.cls ≠ "java/lang/invoke/VarHandle" ∧ (parseMethodDescriptor yX12_feast.desc).map (fun d => d.parameters.length) = some 1 := by decide +kernel
theorem fy_X12_feud : yX12_feud.cls ≠ "java/lang/invoke/MethodHandle" ∧ yX12_feud.cls ≠ "java/lang/invoke/VarHandle" ∧ (parseMethodDescriptor yX12_feud.desc).map (fun d => d.parameters.length) = some 3 := by decide +kernel
theorem fy_X12_init : yX12_init.cls ≠ "java/lang/invoke/MethodHandle" ∧ yX12_init.cls ≠ "java/lang/invoke/VarHandle" ∧ (parseMethodDescriptor yX12_init.desc).map (fun d => d.parameters.length) = some 0 := by decide +kernel
theorem fy_X12_jam : yX12_jam.cls ≠ "java/lang/invoke/MethodHandle" ∧ yX12_jam.cls ≠ "java/lang/invoke/VarHandle" ∧ (parseMethodDescriptor yX12_jam.desc).map (fun d => d.parameters.length) = some 0 := by decide +kernel
theorem fy_X12_keep : yX12_keep.cls ≠ "java/lang/invoke/MethodHandle" ∧ yX12_keep.cls ≠ "java/lang/invoke/VarHandle" ∧ (parseMethodDescriptor yX12_keep.desc).map (fun d => d.parameters.length) = some 1 := by decide +kernel
theorem fy_X12_knees : yX12_knees.cls ≠ "java/lang/invoke/MethodHandle" ∧ yX12_knees.cls ≠ "java/lang/invoke/VarHandle" ∧ (parseMethodDescriptor yX12_knees.desc).map (fun d => d.parameters.length) = some 1 := by decide +kernel
theorem fy_X12_lamps : yX12_lamps.cls ≠ "java/lang/invoke/MethodHandle" ∧ yX12_lamps.cls ≠ "java/lang/invoke/VarHandle" ∧ (parseMethodDescriptor yX12_lamps.desc).map (fun d => d.parameters.length) = some 1 := by decide +kernel
theorem fy_X12_law : yX12_law.cls ≠ "java/lang/invoke/MethodHandle" ∧ yX12_law.cls ≠ "java/lang/invoke/VarHandle" ∧ (parseMethodDescriptor yX12_law.desc).map (fun d => d.parameters.length) = some 1 := by decide +kernel
theorem fy_X12_market : yX12_market.cls ≠ "java/lang/invoke/MethodHandle" ∧ yX12_market.cls ≠ "java/lang/invoke/VarHandle" ∧ (parseMethodDescriptor yX12_market.desc).map (fun d => d.parameters.length) = some 1 := by decide +kernel
theorem fy_X12_mends : yX12_mends.cls ≠ "java/lang/invoke/MethodHandle" ∧ yX12_mends.cls ≠ "java/lang/invoke/VarHandle" ∧ (parseMethodDescriptor yX12_mends.desc).map (fun d => d.parameters.length) = some 1 := by decide +kernel
theorem fy_X12_next : yX12_next.cls ≠ "java/lang/invoke/MethodHandle" ∧ yX12_next.cls ≠ "java/lang/invoke/VarHandle" ∧ (parseMethodDescriptor yX12_next.desc).map (fun d => d.parameters.length) = some 2 := by decide +kernel
theorem fy_X12_of : yX12_of.cls ≠ "java/lang/invoke/MethodHandle" ∧ yX12_of.cls ≠ "java/lang/invoke/VarHandle" ∧ (parseMethodDescriptor yX12_of.desc).map (fun d => d.parameters.length) = some 2 := by decide +kernel
theorem fy_X12_parts : yX12_parts.cls ≠ "java/lang/invoke/MethodHandle" ∧ yX12_parts.cls ≠ "java/lang/invoke/VarHandle" ∧ (parseMethodDescriptor yX12_parts.desc).map (fun d => d.parameters.length) = some 2 := by decide +kernel
theorem fy_X12_peace : yX12_peace.cls ≠ "java/lang/invoke/MethodHandle" ∧ yX12_peace.cls ≠ "java/lang/invoke/VarHandle" ∧ (parseMethodDescriptor yX12_peace.desc).map (fun d => d.parameters.length) = some 0 := by decide +kernel
theorem fy_X12_pilgrim : yX12_pilgrim.cls ≠ "java/lang/invoke/MethodHandle" ∧ yX12_pilgrim.cls ≠ "java/lang/invoke/VarHandle" ∧ (parseMethodDescriptor yX12_pilgrim.desc).map (fun d => d.parameters.length) = some 4 := by decide +kernel
theorem fy_X12_rail : yX12_rail.cls ≠ "java/lang/invoke/MethodHandle" ∧ yX12_rail.cls ≠ "java/lang/invoke/VarHandle" ∧ (parseMethodDescriptor yX12_rail.desc).map (fun d => d.parameters.length) = some 1 := by decide +kernel
theorem fy_X12_rests : yX12_rests.cls ≠ "java/lang/invoke/MethodHandle" ∧ yX12_rests.cls ≠ "java/lang/invoke/VarHandle" ∧ (parseMethodDescriptor yX12_rests.desc).map (fun d => d.parameters.length) = some 2 := by decide +kernel
theorem fy_X12_returns : yX12_returns.cls ≠ "java/lang/invoke/MethodHandle" ∧ yX12_returns.cls ≠ "java/lang/invoke/VarHandle" ∧ (parseMethodDescriptor yX12_returns.desc).map (fun d => d.parameters.length) = some 1 := by decide +kernel
theorem fy_X12_row : yX12_row.cls ≠ "java/lang/invoke/MethodHandle" ∧ yX12_row.cls ≠ "java/lang/invoke/VarHandle" ∧ (parseMethodDescriptor yX12_row.desc).map (fun d => d.parameters.length) = some 1 := by decide +kernel
theorem fy_X12_rules : yX12_rules.cls ≠ "java/lang/invoke/MethodHandle" ∧ yX12_rules.cls ≠ "java/lang/invoke/VarHandle" ∧ (parseMethodDescriptor yX12_rules.desc).map (fun d => d.parameters.length) = some 2 := by decide +kernel
theorem fy_X12_sells : yX12_sells.cls ≠ "java/lang/invoke/MethodHandle" ∧ yX12_sells.cls ≠ "java/lang/invoke/VarHandle" ∧ (parseMethodDescriptor yX12_sells.desc).map (fun d => d.parameters.length) = some 5 := by decide +kernel
theorem fy_X12_set : yX12_set.cls ≠ "java/lang/invoke/MethodHandle" ∧ yX12_set.cls ≠ "java/lang/invoke/VarHandle" ∧ (parseMethodDescriptor yX12_set.desc).map (fun d => d.parameters.length) = some 3 := by decide +kernel
theorem fy_X12_sheet : yX12_sheet.cls ≠ "java/lang/invoke/MethodHandle" ∧ yX12_sheet.cls ≠ "java/lang/invoke/VarHandle" ∧ (parseMethodDescriptor yX12_sheet.desc).map (fun d => d.parameters.length) = some 4 := by decide +kernel
theorem fy_X12_shut : yX12_shut.cls ≠ "java/lang/invoke/MethodHandle" ∧ yX12_shut.cls ≠ "java/lang/invoke/VarHandle" ∧ (parseMethodDescriptor yX12_shut.desc).map (fun d => d.parameters.length) = some 1 := by decide +kernel
theorem fy_X12_sign : yX12_sign.cls ≠ "java/lang/invoke/MethodHandle" ∧ yX12_sign.cls ≠ "java/lang/invoke/VarHandle" ∧ (parseMethodDescriptor yX12_sign.desc).map (fun d => d.parameters.length) = some 1 := by decide +kernel
theorem fy_X12_stairs : yX12_stairs.cls ≠ "java/lang/invoke/MethodHandle" ∧ yX12_stairs.cls ≠ "java/lang/invoke/VarHandle" ∧ (parseMethodDescriptor yX12_stairs.desc).map (fun d => d.parameters.length) = some 0 := by decide +kernel
theorem fy_X12_step : yX12_step.cls ≠ "java/lang/invoke/MethodHandle" ∧ yX12_step.cls ≠ "java/lang/invoke/VarHandle" ∧ (parseMethodDescriptor yX12_step.desc).map (fun d => d.parameters.length) = some 2 := by decide +kernel
theorem fy_X12_toll : yX12_toll.cls ≠ "java/lang/invoke/MethodHandle" ∧ yX12_toll.cls ≠ "java/lang/invoke/VarHandle" ∧ (parseMethodDescriptor yX12_toll.desc).map (fun d => d.parameters.length) = some 1 := by decide +kernel
theorem fy_X12_tread : yX12_tread.cls ≠ "java/lang/invoke/MethodHandle" ∧ yX12_tread.cls ≠ "java/lang/invoke/VarHandle" ∧ (parseMethodDescriptor yX12_tread.desc).map (fun d => d.parameters.length) = some 2 := by decide +kernel
theorem fy_X12_trod : yX12_trod.cls ≠ "java/lang/invoke/MethodHandle" ∧ yX12_trod.cls ≠ "java/lang/invoke/VarHandle" ∧ (parseMethodDescriptor yX12_trod.desc).map (fun d => d.parameters.length) = some 3 := by decide +kernel
theorem fy_X12_undo : yX12_undo.cls ≠ "java/lang/invoke/MethodHandle" ∧ yX12_undo.cls ≠ "java/lang/invoke/VarHandle" ∧ (parseMethodDescriptor yX12_undo.desc).map (fun d => d.parameters.length) = some 0 := by decide +kernel
theorem fy_X12_vow : yX12_vow.cls ≠ "java/lang/invoke/MethodHandle" ∧ yX12_vow.cls ≠ "java/lang/invoke/VarHandle" ∧ (parseMethodDescriptor yX12_vow.desc).map (fun d => d.parameters.length) = some 2 := by decide +kernel
theorem fy_X12_ways : yX12_ways.cls ≠ "java/lang/invoke/MethodHandle" ∧ yX12_ways.cls ≠ "java/lang/invoke/VarHandle" ∧ (parseMethodDescriptor yX12_ways.desc).map (fun d => d.parameters.length) = some 2 := by decide +kernel
theorem fy_X12_wears : yX12_wears.cls ≠ "java/lang/invoke/MethodHandle" ∧ yX12_wears.cls ≠ "java/lang/invoke/VarHandle" ∧ (parseMethodDescriptor yX12_wears.desc).map (fun d => d.parameters.length) = some 1 := by decide +kernel
theorem fy_X12_who : yX12_who.cls ≠ "java/lang/invoke/MethodHandle" ∧ yX12_who.cls ≠ "java/lang/invoke/VarHandle" ∧ (parseMethodDescriptor yX12_who.desc).map (fun d => d.parameters.length) = some 2 := by decide +kernel
theorem fy_X12_whole : yX12_whole.cls ≠ "java/lang/invoke/MethodHandle" ∧ yX12_whole.cls ≠ "java/lang/invoke/VarHandle" ∧ (parseMethodDescriptor yX12_whole.desc).map (fun d => d.parameters.length) = some 1 := by decide +kernel
theorem fy_X12_would : yX12_would.cls ≠ "java/lang/invoke/MethodHandle" ∧ yX12_would.cls ≠ "java/lang/invoke/VarHandle" ∧ (parseMethodDescriptor yX12_would.desc).map (fun d => d.parameters.length) = some 2 := by decide +kernel
set_option maxRecDepth 100000 in
def f_L_law_b1732 (xs : Nat → Int32) (Ls : Nat) (B : Nat × Nat) (K23 : Nat → Nat → Nat → Int32 → jZ → jI → jL → Prop) (v1 : Nat) (v2 : Nat) (v3 : Nat) (v4 : Int32) (Z : jZ) (I : jI) (L : jL) : Prop := (∀ x1 : Int32, x1 = v4 + 6 → K23 v1 v2 v3 x1 Z I L)
set_option maxHeartbeats 4000000 in
set_option maxRecDepth 100000 in
theorem m_L_law_b1732 {G : jG} {Z0 : jZ} {xs : Nat → Int32} {Ls b k9 n9 sa sb : Nat} {B : Nat × Nat} {Z5 : jZ} (E : jE G cL_law RL (Cond.arrayClass .byte :: jT) 8 (some .boolean) room_1 jRL) (hX : va_X b Ls xs (gS G) (gS G).heap ∧ b < (gS G).heap.size ∧ ¬ gA G b) (hV : jV (gA G) (gS G) (gS G).heap) (hU : jU sa sb (gA G) (gS G) (gS G).heap) (hl0 : (gL G).stackTraces = false) (hb9 : k9 + 27 + (B.1 - jcz Z5) ≤ 601024) (hn9 : n9 + 600 + (B.2 - jsz Z5) ≤ 7293034) (K23 : Nat → Nat → Nat → Int32 → jZ → jI → jL → Prop) (hK23 : ∀ (v1 : Nat) (v2 : Nat) (v3 : Nat) (v4 : Int32) (Z : jZ) (I : jI) (L : jL), SH Z → jext Z0 Z → jle Z5 Z → jin B Z → jk Z v1 11 → jk Z v2 12 → jk Z v3 15 → K23 v1 v2 v3 v4 Z I L → jJ G 8 23 [(0, .ref b), (1, .ref v1), (2, .ref v2), (3, .ref v3), (4, .int v4)] [] Z I L (k9 + (jcz Z - jcz Z5) + 27) (n9 + (jsz Z - jsz Z5) + 600)) (v1 : Nat) (v2 : Nat) (v3 : Nat) (v4 : Int32) (Z : jZ) (I : jI) (L : jL) (hZ : SH Z) (hx : jext Z0 Z) (hc : jle Z5 Z) (hb : jin B Z) (kv1 : jk Z v1 11) (kv2 : jk Z v2 12) (kv3 : jk Z v3 15) (h : f_L_law_b1732 xs Ls B K23 v1 v2 v3 v4 Z I L) : jJ G 8 1732 [(0, .ref b), (1, .ref v1), (2, .ref v2), (3, .ref v3), (4, .int v4)] [] Z I L (k9 + (jcz Z - jcz Z5) + 27) (n9 + (jsz Z - jsz Z5) + 600) := by
  unfold f_L_law_b1732 at h
  obtain ⟨x1, ex1⟩ : ∃ y : Int32, y = v4 + 6 := ⟨_, rfl⟩
  have h := h x1 ex1
  refine j_iinc E x1 [(4, .int x1), (0, .ref b), (1, .ref v1), (2, .ref v2), (3, .ref v3)] dL_law_1732 4 rfl (by rw [ex1]; rfl) (by decide) rfl ?_
  refine j_goto E 23 dL_law_1735 (by decide) ?_
  refine j_sub [1, 2, 3, 4, 0] rfl ?_
  refine j_widen (k9 := k9 + (jcz Z - jcz Z5) + 27) (n9 := n9 + (jsz Z - jsz Z5) + 600) (by show k9 + (jcz Z - jcz Z5) + 27 ≤ _; omega) (by show n9 + (jsz Z - jsz Z5) + 600 ≤ _; omega) ?_
  exact hK23 v1 v2 v3 x1 Z I L hZ hx hc hb kv1 kv2 kv3 h
set_option maxRecDepth 100000 in
def f_L_law_b244 (xs : Nat → Int32) (Ls : Nat) (B : Nat × Nat) (K23 : Nat → Nat → Nat → Int32 → jZ → jI → jL → Prop) (v1 : Nat) (v2 : Nat) (v3 : Nat) (v4 : Int32) (Z : jZ) (I : jI) (L : jL) : Prop := (vp_in (v4 + (1 : Int32)) Ls ∧ (f_X11_sign v1 (xs (v4 + (1 : Int32)).toNatClampNeg) Z I L (fun r9 I5 L6 => (vp_in (v4 + (1 : Int32)) Ls ∧ (f_X12_sign v2 (xs (v4 + (1 : Int32)).toNatClampNeg) Z I5 L6 (fun r17 I13 L14 => f_L_law_b1732 xs Ls B K23 v1 v2 v3 v4 Z I13 L14))))))
set_option maxHeartbeats 4000000 in
set_option maxRecDepth 100000 in
theorem m_L_law_b244 {G : jG} {Z0 : jZ} {xs : Nat → Int32} {Ls b k9 n9 sa sb : Nat} {B : Nat × Nat} {Z5 : jZ} (E : jE G cL_law RL (Cond.arrayClass .byte :: jT) 8 (some .boolean) room_1 jRL) (hX : va_X b Ls xs (gS G) (gS G).heap ∧ b < (gS G).heap.size ∧ ¬ gA G b) (hV : jV (gA G) (gS G) (gS G).heap) (hU : jU sa sb (gA G) (gS G) (gS G).heap) (hl0 : (gL G).stackTraces = false) (hb9 : k9 + 27 + (B.1 - jcz Z5) ≤ 601024) (hn9 : n9 + 600 + (B.2 - jsz Z5) ≤ 7293034) (K23 : Nat → Nat → Nat → Int32 → jZ → jI → jL → Prop) (hK23 : ∀ (v1 : Nat) (v2 : Nat) (v3 : Nat) (v4 : Int32) (Z : jZ) (I : jI) (L : jL), SH Z → jext Z0 Z → jle Z5 Z → jin B Z → jk Z v1 11 → jk Z v2 12 → jk Z v3 15 → K23 v1 v2 v3 v4 Z I L → jJ G 8 23 [(0, .ref b), (1, .ref v1), (2, .ref v2), (3, .ref v3), (4, .int v4)] [] Z I L (k9 + (jcz Z - jcz Z5) + 27) (n9 + (jsz Z - jsz Z5) + 600)) (v1 : Nat) (v2 : Nat) (v3 : Nat) (v4 : Int32) (Z : jZ) (I : jI) (L : jL) (hZ : SH Z) (hx : jext Z0 Z) (hc : jle Z5 Z) (hb : jin B Z) (kv1 : jk Z v1 11) (kv2 : jk Z v2 12) (kv3 : jk Z v3 15) (h : f_L_law_b244 xs Ls B K23 v1 v2 v3 v4 Z I L) : jJ G 8 244 [(0, .ref b), (1, .ref v1), (2, .ref v2), (3, .ref v3), (4, .int v4)] [] Z I L (k9 + (jcz Z - jcz Z5) + 0) (n9 + (jsz Z - jsz Z5) + 0) := by
  unfold f_L_law_b244 at h
  refine j_aload_n E dL_law_244 1 rfl ?_
  refine j_aload_n E dL_law_245 0 rfl ?_
  refine j_iload E dL_law_246 4 rfl ?_
  refine j_iconst E (v := 1) dL_law_248 (by decide) ?_
  refine j_iadd E dL_law_249 ?_
  obtain ⟨o2, h⟩ := h
  refine j_sld E hX.1 hX.2.1 hX.2.2 o2 dL_law_250 ?_
  refine j_callV E [.int (xs (v4 + (1 : Int32)).toNatClampNeg)] [] (c_X11_sign (gL G) (gD G) (gY G) v1 (xs (v4 + (1 : Int32)).toNatClampNeg) Z I L _ hZ kv1 h) (gwV W_1210 W_1211 W_1212 W_40 W_1209) rfl ⟨rfl, fy_X11_sign⟩ ⟨by decide, by decide⟩ (c := 11) rfl (by decide) kv1 rfl rfl (Nat.le_of_ble_eq_true rfl) ⟨by show k9 + (jcz Z - jcz Z5) + 0 + 0 ≤ 601024; have := hb.1; omega, by show n9 + (jsz Z - jsz Z5) + 0 + 0 ≤ 7293034; have := hb.2; omega⟩ dL_law_251 (fun v3 Z4 I5 L6 q7 => ?_)
  obtain ⟨rfl, r9, rfl, h⟩ := q7
  show jJ G 8 254 [(0, .ref b), (1, .ref v1), (2, .ref v2), (3, .ref v3), (4, .int v4)] [.int r9] Z I5 L6 (k9 + (jcz Z - jcz Z5) + 0) (n9 + (jsz Z - jsz Z5) + 0)
  refine j_pop E dL_law_254 rfl ?_
  refine j_aload_n E dL_law_255 2 rfl ?_
  refine j_aload_n E dL_law_256 0 rfl ?_
  refine j_iload E dL_law_257 4 rfl ?_
  refine j_iconst E (v := 1) dL_law_259 (by decide) ?_
  refine j_iadd E dL_law_260 ?_
  obtain ⟨o10, h⟩ := h
  refine j_sld E hX.1 hX.2.1 hX.2.2 o10 dL_law_261 ?_
  refine j_callV E [.int (xs (v4 + (1 : Int32)).toNatClampNeg)] [] (c_X12_sign (gL G) (gD G) (gY G) v2 (xs (v4 + (1 : Int32)).toNatClampNeg) Z I5 L6 _ hZ kv2 h) (gwV W_1214 W_1215 W_1216 W_695 W_1213) rfl ⟨rfl, fy_X12_sign⟩ ⟨by decide, by decide⟩ (c := 12) rfl (by decide) kv2 rfl rfl (Nat.le_of_ble_eq_true rfl) ⟨by show k9 + (jcz Z - jcz Z5) + 0 + 0 ≤ 601024; have := hb.1; omega, by show n9 + (jsz Z - jsz Z5) + 0 + 0 ≤ 7293034; have := hb.2; omega⟩ dL_law_262 (fun v11 Z12 I13 L14 q15 => ?_)
  obtain ⟨rfl, r17, rfl, h⟩ := q15
  show jJ G 8 265 [(0, .ref b), (1, .ref v1), (2, .ref v2), (3, .ref v3), (4, .int v4)] [.int r17] Z I13 L14 (k9 + (jcz Z - jcz Z5) + 0) (n9 + (jsz Z - jsz Z5) + 0)
  refine j_pop E dL_law_265 rfl ?_
  refine j_goto E 1732 dL_law_266 (by decide) ?_
  refine j_sub [0, 1, 2, 3, 4] rfl ?_
  refine j_widen (k9 := k9 + (jcz Z - jcz Z5) + 27) (n9 := n9 + (jsz Z - jsz Z5) + 600) (by show k9 + (jcz Z - jcz Z5) + 0 ≤ _; omega) (by show n9 + (jsz Z - jsz Z5) + 0 ≤ _; omega) ?_
  exact m_L_law_b1732 E hX hV hU hl0 hb9 hn9 K23 hK23 v1 v2 v3 v4 Z I13 L14 hZ hx hc hb kv1 kv2 kv3 h
set_option maxRecDepth 100000 in
def f_L_law_b269 (xs : Nat → Int32) (Ls : Nat) (B : Nat × Nat) (K23 : Nat → Nat → Nat → Int32 → jZ → jI → jL → Prop) (v1 : Nat) (v2 : Nat) (v3 : Nat) (v4 : Int32) (Z : jZ) (I : jI) (L : jL) : Prop := (vp_in (v4 + (1 : Int32)) Ls ∧ (f_X11_end v1 (xs (v4 + (1 : Int32)).toNatClampNeg) Z I L (fun r25 I21 L22 => (vp_in (v4 + (1 : Int32)) Ls ∧ (f_X12_end v2 (xs (v4 + (1 : Int32)).toNatClampNeg) Z I21 L22 (fun r33 I29 L30 => f_L_law_b1732 xs Ls B K23 v1 v2 v3 v4 Z I29 L30))))))
set_option maxHeartbeats 4000000 in
set_option maxRecDepth 100000 in
theorem m_L_law_b269 {G : jG} {Z0 : jZ} {xs : Nat → Int32} {Ls b k9 n9 sa sb : Nat} {B : Nat × Nat} {Z5 : jZ} (E : jE G cL_law RL (Cond.arrayClass .byte :: jT) 8 (some .boolean) room_1 jRL) (hX : va_X b Ls xs (gS G) (gS G).heap ∧ b < (gS G).heap.size ∧ ¬ gA G b) (hV : jV (gA G) (gS G) (gS G).heap) (hU : jU sa sb (gA G) (gS G) (gS G).heap) (hl0 : (gL G).stackTraces = false) (hb9 : k9 + 27 + (B.1 - jcz Z5) ≤ 601024) (hn9 : n9 + 600 + (B.2 - jsz Z5) ≤ 7293034) (K23 : Nat → Nat → Nat → Int32 → jZ → jI → jL → Prop) (hK23 : ∀ (v1 : Nat) (v2 : Nat) (v3 : Nat) (v4 : Int32) (Z : jZ) (I : jI) (L : jL), SH Z → jext Z0 Z → jle Z5 Z → jin B Z → jk Z v1 11 → jk Z v2 12 → jk Z v3 15 → K23 v1 v2 v3 v4 Z I L → jJ G 8 23 [(0, .ref b), (1, .ref v1), (2, .ref v2), (3, .ref v3), (4, .int v4)] [] Z I L (k9 + (jcz Z - jcz Z5) + 27) (n9 + (jsz Z - jsz Z5) + 600)) (v1 : Nat) (v2 : Nat) (v3 : Nat) (v4 : Int32) (Z : jZ) (I : jI) (L : jL) (hZ : SH Z) (hx : jext Z0 Z) (hc : jle Z5 Z) (hb : jin B Z) (kv1 : jk Z v1 11) (kv2 : jk Z v2 12) (kv3 : jk Z v3 15) (h : f_L_law_b269 xs Ls B K23 v1 v2 v3 v4 Z I L) : jJ G 8 269 [(0, .ref b), (1, .ref v1), (2, .ref v2), (3, .ref v3), (4, .int v4)] [] Z I L (k9 + (jcz Z - jcz Z5) + 0) (n9 + (jsz Z - jsz Z5) + 0) := by
  unfold f_L_law_b269 at h
  refine j_aload_n E dL_law_269 1 rfl ?_
  refine j_aload_n E dL_law_270 0 rfl ?_
  refine j_iload E dL_law_271 4 rfl ?_
  refine j_iconst E (v := 1) dL_law_273 (by decide) ?_
  refine j_iadd E dL_law_274 ?_
  obtain ⟨o18, h⟩ := h
  refine j_sld E hX.1 hX.2.1 hX.2.2 o18 dL_law_275 ?_
  refine j_callV E [.int (xs (v4 + (1 : Int32)).toNatClampNeg)] [] (c_X11_end (gL G) (gD G) (gY G) v1 (xs (v4 + (1 : Int32)).toNatClampNeg) Z I L _ hZ kv1 h) (gwV W_1218 W_1219 W_1220 W_40 W_1217) rfl ⟨rfl, fy_X11_end⟩ ⟨by decide, by decide⟩ (c := 11) rfl (by decide) kv1 rfl rfl (Nat.le_of_ble_eq_true rfl) ⟨by show k9 + (jcz Z - jcz Z5) + 0 + 0 ≤ 601024; have := hb.1; omega, by show n9 + (jsz Z - jsz Z5) + 0 + 0 ≤ 7293034; have := hb.2; omega⟩ dL_law_276 (fun v19 Z20 I21 L22 q23 => ?_)
  obtain ⟨rfl, r25, rfl, zr25, h⟩ := q23
  show jJ G 8 279 [(0, .ref b), (1, .ref v1), (2, .ref v2), (3, .ref v3), (4, .int v4)] [.int r25] Z I21 L22 (k9 + (jcz Z - jcz Z5) + 0) (n9 + (jsz Z - jsz Z5) + 0)
  refine j_pop E dL_law_279 rfl ?_
  refine j_aload_n E dL_law_280 2 rfl ?_
  refine j_aload_n E dL_law_281 0 rfl ?_
  refine j_iload E dL_law_282 4 rfl ?_
  refine j_iconst E (v := 1) dL_law_284 (by decide) ?_
  refine j_iadd E dL_law_285 ?_
  obtain ⟨o26, h⟩ := h
  refine j_sld E hX.1 hX.2.1 hX.2.2 o26 dL_law_286 ?_
  refine j_callV E [.int (xs (v4 + (1 : Int32)).toNatClampNeg)] [] (c_X12_end (gL G) (gD G) (gY G) v2 (xs (v4 + (1 : Int32)).toNatClampNeg) Z I21 L22 _ hZ kv2 h) (gwV W_1222 W_1223 W_1224 W_695 W_1221) rfl ⟨rfl, fy_X12_end⟩ ⟨by decide, by decide⟩ (c := 12) rfl (by decide) kv2 rfl rfl (Nat.le_of_ble_eq_true rfl) ⟨by show k9 + (jcz Z - jcz Z5) + 0 + 0 ≤ 601024; have := hb.1; omega, by show n9 + (jsz Z - jsz Z5) + 0 + 0 ≤ 7293034; have := hb.2; omega⟩ dL_law_287 (fun v27 Z28 I29 L30 q31 => ?_)
  obtain ⟨rfl, r33, rfl, zr33, h⟩ := q31
  show jJ G 8 290 [(0, .ref b), (1, .ref v1), (2, .ref v2), (3, .ref v3), (4, .int v4)] [.int r33] Z I29 L30 (k9 + (jcz Z - jcz Z5) + 0) (n9 + (jsz Z - jsz Z5) + 0)
  refine j_pop E dL_law_290 rfl ?_
  refine j_goto E 1732 dL_law_291 (by decide) ?_
  refine j_sub [0, 1, 2, 3, 4] rfl ?_
  refine j_widen (k9 := k9 + (jcz Z - jcz Z5) + 27) (n9 := n9 + (jsz Z - jsz Z5) + 600) (by show k9 + (jcz Z - jcz Z5) + 0 ≤ _; omega) (by show n9 + (jsz Z - jsz Z5) + 0 ≤ _; omega) ?_
  exact m_L_law_b1732 E hX hV hU hl0 hb9 hn9 K23 hK23 v1 v2 v3 v4 Z I29 L30 hZ hx hc hb kv1 kv2 kv3 h
set_option maxRecDepth 100000 in
def f_L_law_b294 (xs : Nat → Int32) (Ls : Nat) (B : Nat × Nat) (K23 : Nat → Nat → Nat → Int32 → jZ → jI → jL → Prop) (v1 : Nat) (v2 : Nat) (v3 : Nat) (v4 : Int32) (Z : jZ) (I : jI) (L : jL) : Prop := (f_X11_stairs v1 Z I L (fun r40 I36 L37 => (f_X12_stairs B v2 Z I36 L37 (fun r47 Z42 I43 L44 => f_L_law_b1732 xs Ls B K23 v1 v2 v3 v4 Z42 I43 L44))))
set_option maxHeartbeats 4000000 in
set_option maxRecDepth 100000 in
theorem m_L_law_b294 {G : jG} {Z0 : jZ} {xs : Nat → Int32} {Ls b k9 n9 sa sb : Nat} {B : Nat × Nat} {Z5 : jZ} (E : jE G cL_law RL (Cond.arrayClass .byte :: jT) 8 (some .boolean) room_1 jRL) (hX : va_X b Ls xs (gS G) (gS G).heap ∧ b < (gS G).heap.size ∧ ¬ gA G b) (hV : jV (gA G) (gS G) (gS G).heap) (hU : jU sa sb (gA G) (gS G) (gS G).heap) (hl0 : (gL G).stackTraces = false) (hb9 : k9 + 27 + (B.1 - jcz Z5) ≤ 601024) (hn9 : n9 + 600 + (B.2 - jsz Z5) ≤ 7293034) (K23 : Nat → Nat → Nat → Int32 → jZ → jI → jL → Prop) (hK23 : ∀ (v1 : Nat) (v2 : Nat) (v3 : Nat) (v4 : Int32) (Z : jZ) (I : jI) (L : jL), SH Z → jext Z0 Z → jle Z5 Z → jin B Z → jk Z v1 11 → jk Z v2 12 → jk Z v3 15 → K23 v1 v2 v3 v4 Z I L → jJ G 8 23 [(0, .ref b), (1, .ref v1), (2, .ref v2), (3, .ref v3), (4, .int v4)] [] Z I L (k9 + (jcz Z - jcz Z5) + 27) (n9 + (jsz Z - jsz Z5) + 600)) (v1 : Nat) (v2 : Nat) (v3 : Nat) (v4 : Int32) (Z : jZ) (I : jI) (L : jL) (hZ : SH Z) (hx : jext Z0 Z) (hc : jle Z5 Z) (hb : jin B Z) (kv1 : jk Z v1 11) (kv2 : jk Z v2 12) (kv3 : jk Z v3 15) (h : f_L_law_b294 xs Ls B K23 v1 v2 v3 v4 Z I L) : jJ G 8 294 [(0, .ref b), (1, .ref v1), (2, .ref v2), (3, .ref v3), (4, .int v4)] [] Z I L (k9 + (jcz Z - jcz Z5) + 0) (n9 + (jsz Z - jsz Z5) + 0) := by
  unfold f_L_law_b294 at h
  refine j_aload_n E dL_law_294 1 rfl ?_
  refine j_callV E [] [] (c_X11_stairs (gL G) (gD G) (gY G) v1 Z I L _ hZ kv1 h) (gwV W_1226 W_1227 W_1228 W_40 W_1225) rfl ⟨rfl, fy_X11_stairs⟩ ⟨by decide, by decide⟩ (c := 11) rfl (by decide) kv1 rfl rfl (Nat.le_of_ble_eq_true rfl) ⟨by show k9 + (jcz Z - jcz Z5) + 0 + 0 ≤ 601024; have := hb.1; omega, by show n9 + (jsz Z - jsz Z5) + 0 + 0 ≤ 7293034; have := hb.2; omega⟩ dL_law_295 (fun v34 Z35 I36 L37 q38 => ?_)
  obtain ⟨rfl, r40, rfl, h⟩ := q38
  show jJ G 8 298 [(0, .ref b), (1, .ref v1), (2, .ref v2), (3, .ref v3), (4, .int v4)] [.int r40] Z I36 L37 (k9 + (jcz Z - jcz Z5) + 0) (n9 + (jsz Z - jsz Z5) + 0)
  refine j_pop E dL_law_298 rfl ?_
  refine j_aload_n E dL_law_299 2 rfl ?_
  refine ju_callV E [] [] (c_X12_stairs (gL G) (gD G) (gY G) B v2 Z I36 L37 _ hZ hb kv2 h) (gwV W_1230 W_1231 W_1232 W_695 W_1229) rfl ⟨rfl, fy_X12_stairs⟩ ⟨by decide, by decide⟩ (c := 12) rfl (by decide) kv2 rfl rfl (Nat.le_of_ble_eq_true rfl) ⟨by show k9 + (jcz Z - jcz Z5) + 0 + (B.1 - jcz Z) ≤ 601024; have := hb.1; have := hc.1; omega, by show n9 + (jsz Z - jsz Z5) + 0 + (B.2 - jsz Z) ≤ 7293034; have := hb.2; have := hc.2; omega⟩ dL_law_300 (fun v41 Z42 I43 L44 q45 j46 => ?_)
  refine j_kn (k' := k9 + (jcz Z42 - jcz Z5) + 0) (n' := n9 + (jsz Z42 - jsz Z5) + 0) (by have := hc.1; have := j46.1; omega) (by have := hc.2; have := j46.2; omega) ?_
  have hc := jle_trans hc j46
  obtain ⟨yZ42, hZ42, hbZ42, r47, rfl, h⟩ := q45
  have hZ := hZ42
  have hx : jext Z0 Z42 := jext_trans hx yZ42
  have hb := hbZ42
  have k48 := (yZ42 _ _ kv1).1
  have k49 := (yZ42 _ _ kv2).1
  have k50 := (yZ42 _ _ kv3).1
  show jJ G 8 303 [(0, .ref b), (1, .ref v1), (2, .ref v2), (3, .ref v3), (4, .int v4)] [.int r47] Z42 I43 L44 (k9 + (jcz Z42 - jcz Z5) + 0) (n9 + (jsz Z42 - jsz Z5) + 0)
  refine j_pop E dL_law_303 rfl ?_
  refine j_goto E 1732 dL_law_304 (by decide) ?_
  refine j_sub [0, 1, 2, 3, 4] rfl ?_
  refine j_widen (k9 := k9 + (jcz Z42 - jcz Z5) + 27) (n9 := n9 + (jsz Z42 - jsz Z5) + 600) (by show k9 + (jcz Z42 - jcz Z5) + 0 ≤ _; omega) (by show n9 + (jsz Z42 - jsz Z5) + 0 ≤ _; omega) ?_
  exact m_L_law_b1732 E hX hV hU hl0 hb9 hn9 K23 hK23 v1 v2 v3 v4 Z42 I43 L44 hZ hx hc hb k48 k49 k50 h
set_option maxRecDepth 100000 in
def f_L_law_b307 (xs : Nat → Int32) (Ls : Nat) (B : Nat × Nat) (K23 : Nat → Nat → Nat → Int32 → jZ → jI → jL → Prop) (v1 : Nat) (v2 : Nat) (v3 : Nat) (v4 : Int32) (Z : jZ) (I : jI) (L : jL) : Prop := (vp_in (v4 + (1 : Int32)) Ls ∧ (fs_X11_law v1 (xs (v4 + (1 : Int32)).toNatClampNeg) Z I L (fun r58 I54 L55 => (vp_in (v4 + (1 : Int32)) Ls ∧ (f_X12_law B v2 (xs (v4 + (1 : Int32)).toNatClampNeg) Z I54 L55 (fun r66 Z61 I62 L63 => f_L_law_b1732 xs Ls B K23 v1 v2 v3 v4 Z61 I62 L63))))))
set_option maxHeartbeats 4000000 in
set_option maxRecDepth 100000 in
theorem m_L_law_b307 {G : jG} {Z0 : jZ} {xs : Nat → Int32} {Ls b k9 n9 sa sb : Nat} {B : Nat × Nat} {Z5 : jZ} (E : jE G cL_law RL (Cond.arrayClass .byte :: jT) 8 (some .boolean) room_1 jRL) (hX : va_X b Ls xs (gS G) (gS G).heap ∧ b < (gS G).heap.size ∧ ¬ gA G b) (hV : jV (gA G) (gS G) (gS G).heap) (hU : jU sa sb (gA G) (gS G) (gS G).heap) (hl0 : (gL G).stackTraces = false) (hb9 : k9 + 27 + (B.1 - jcz Z5) ≤ 601024) (hn9 : n9 + 600 + (B.2 - jsz Z5) ≤ 7293034) (K23 : Nat → Nat → Nat → Int32 → jZ → jI → jL → Prop) (hK23 : ∀ (v1 : Nat) (v2 : Nat) (v3 : Nat) (v4 : Int32) (Z : jZ) (I : jI) (L : jL), SH Z → jext Z0 Z → jle Z5 Z → jin B Z → jk Z v1 11 → jk Z v2 12 → jk Z v3 15 → K23 v1 v2 v3 v4 Z I L → jJ G 8 23 [(0, .ref b), (1, .ref v1), (2, .ref v2), (3, .ref v3), (4, .int v4)] [] Z I L (k9 + (jcz Z - jcz Z5) + 27) (n9 + (jsz Z - jsz Z5) + 600)) (v1 : Nat) (v2 : Nat) (v3 : Nat) (v4 : Int32) (Z : jZ) (I : jI) (L : jL) (hZ : SH Z) (hx : jext Z0 Z) (hc : jle Z5 Z) (hb : jin B Z) (kv1 : jk Z v1 11) (kv2 : jk Z v2 12) (kv3 : jk Z v3 15) (h : f_L_law_b307 xs Ls B K23 v1 v2 v3 v4 Z I L) : jJ G 8 307 [(0, .ref b), (1, .ref v1), (2, .ref v2), (3, .ref v3), (4, .int v4)] [] Z I L (k9 + (jcz Z - jcz Z5) + 0) (n9 + (jsz Z - jsz Z5) + 0) := by
  unfold f_L_law_b307 at h
  refine j_aload_n E dL_law_307 1 rfl ?_
  refine j_aload_n E dL_law_308 0 rfl ?_
  refine j_iload E dL_law_309 4 rfl ?_
  refine j_iconst E (v := 1) dL_law_311 (by decide) ?_
  refine j_iadd E dL_law_312 ?_
  obtain ⟨o51, h⟩ := h
  refine j_sld E hX.1 hX.2.1 hX.2.2 o51 dL_law_313 ?_
  refine j_callVS E hU [.int (xs (v4 + (1 : Int32)).toNatClampNeg)] [] (cs_X11_law (gL G) (gD G) (gY G) v1 (xs (v4 + (1 : Int32)).toNatClampNeg) Z I L _ hZ kv1 h) (gwV W_1234 W_1235 W_1236 W_40 W_1233) rfl ⟨rfl, fy_X11_law⟩ ⟨by decide, by decide⟩ (c := 11) rfl (by decide) kv1 rfl rfl (Nat.le_of_ble_eq_true rfl) ⟨by show k9 + (jcz Z - jcz Z5) + 0 + 0 ≤ 601024; have := hb.1; omega, by show n9 + (jsz Z - jsz Z5) + 0 + 0 ≤ 7293034; have := hb.2; omega⟩ dL_law_314 (fun v52 Z53 I54 L55 q56 => ?_)
  obtain ⟨rfl, r58, rfl, h⟩ := q56
  show jJ G 8 317 [(0, .ref b), (1, .ref v1), (2, .ref v2), (3, .ref v3), (4, .int v4)] [.int r58] Z I54 L55 (k9 + (jcz Z - jcz Z5) + 0) (n9 + (jsz Z - jsz Z5) + 0)
  refine j_pop E dL_law_317 rfl ?_
  refine j_aload_n E dL_law_318 2 rfl ?_
  refine j_aload_n E dL_law_319 0 rfl ?_
  refine j_iload E dL_law_320 4 rfl ?_
  refine j_iconst E (v := 1) dL_law_322 (by decide) ?_
  refine j_iadd E dL_law_323 ?_
  obtain ⟨o59, h⟩ := h
  refine j_sld E hX.1 hX.2.1 hX.2.2 o59 dL_law_324 ?_
  refine ju_callV E [.int (xs (v4 + (1 : Int32)).toNatClampNeg)] [] (c_X12_law (gL G) (gD G) (gY G) B v2 (xs (v4 + (1 : Int32)).toNatClampNeg) Z I54 L55 _ hZ hb kv2 h) (gwV W_1238 W_1239 W_1240 W_695 W_1237) rfl ⟨rfl, fy_X12_law⟩ ⟨by decide, by decide⟩ (c := 12) rfl (by decide) kv2 rfl rfl (Nat.le_of_ble_eq_true rfl) ⟨by show k9 + (jcz Z - jcz Z5) + 0 + (B.1 - jcz Z) ≤ 601024; have := hb.1; have := hc.1; omega, by show n9 + (jsz Z - jsz Z5) + 0 + (B.2 - jsz Z) ≤ 7293034; have := hb.2; have := hc.2; omega⟩ dL_law_325 (fun v60 Z61 I62 L63 q64 j65 => ?_)
  refine j_kn (k' := k9 + (jcz Z61 - jcz Z5) + 0) (n' := n9 + (jsz Z61 - jsz Z5) + 0) (by have := hc.1; have := j65.1; omega) (by have := hc.2; have := j65.2; omega) ?_
  have hc := jle_trans hc j65
  obtain ⟨yZ61, hZ61, hbZ61, r66, rfl, h⟩ := q64
  have hZ := hZ61
  have hx : jext Z0 Z61 := jext_trans hx yZ61
  have hb := hbZ61
  have k67 := (yZ61 _ _ kv1).1
  have k68 := (yZ61 _ _ kv2).1
  have k69 := (yZ61 _ _ kv3).1
  show jJ G 8 328 [(0, .ref b), (1, .ref v1), (2, .ref v2), (3, .ref v3), (4, .int v4)] [.int r66] Z61 I62 L63 (k9 + (jcz Z61 - jcz Z5) + 0) (n9 + (jsz Z61 - jsz Z5) + 0)
  refine j_pop E dL_law_328 rfl ?_
  refine j_goto E 1732 dL_law_329 (by decide) ?_
  refine j_sub [0, 1, 2, 3, 4] rfl ?_
  refine j_widen (k9 := k9 + (jcz Z61 - jcz Z5) + 27) (n9 := n9 + (jsz Z61 - jsz Z5) + 600) (by show k9 + (jcz Z61 - jcz Z5) + 0 ≤ _; omega) (by show n9 + (jsz Z61 - jsz Z5) + 0 ≤ _; omega) ?_
  exact m_L_law_b1732 E hX hV hU hl0 hb9 hn9 K23 hK23 v1 v2 v3 v4 Z61 I62 L63 hZ hx hc hb k67 k68 k69 h
set_option maxRecDepth 100000 in
def f_L_law_b332 (xs : Nat → Int32) (Ls : Nat) (B : Nat × Nat) (K23 : Nat → Nat → Nat → Int32 → jZ → jI → jL → Prop) (v1 : Nat) (v2 : Nat) (v3 : Nat) (v4 : Int32) (Z : jZ) (I : jI) (L : jL) : Prop := (vp_in (v4 + (1 : Int32)) Ls ∧ (vp_in (v4 + (2 : Int32)) Ls ∧ (f_L_step v1 (xs (v4 + (1 : Int32)).toNatClampNeg) (xs (v4 + (2 : Int32)).toNatClampNeg) v3 Z I L (fun r78 I74 L75 => (vp_in (v4 + (1 : Int32)) Ls ∧ (vp_in (v4 + (2 : Int32)) Ls ∧ (f_X12_step v2 (xs (v4 + (1 : Int32)).toNatClampNeg) (xs (v4 + (2 : Int32)).toNatClampNeg) Z I74 L75 (fun r87 I83 L84 => f_L_law_b1732 xs Ls B K23 v1 v2 v3 v4 Z I83 L84))))))))
set_option maxHeartbeats 4000000 in
set_option maxRecDepth 100000 in
theorem m_L_law_b332 {G : jG} {Z0 : jZ} {xs : Nat → Int32} {Ls b k9 n9 sa sb : Nat} {B : Nat × Nat} {Z5 : jZ} (E : jE G cL_law RL (Cond.arrayClass .byte :: jT) 8 (some .boolean) room_1 jRL) (hX : va_X b Ls xs (gS G) (gS G).heap ∧ b < (gS G).heap.size ∧ ¬ gA G b) (hV : jV (gA G) (gS G) (gS G).heap) (hU : jU sa sb (gA G) (gS G) (gS G).heap) (hl0 : (gL G).stackTraces = false) (hb9 : k9 + 27 + (B.1 - jcz Z5) ≤ 601024) (hn9 : n9 + 600 + (B.2 - jsz Z5) ≤ 7293034) (K23 : Nat → Nat → Nat → Int32 → jZ → jI → jL → Prop) (hK23 : ∀ (v1 : Nat) (v2 : Nat) (v3 : Nat) (v4 : Int32) (Z : jZ) (I : jI) (L : jL), SH Z → jext Z0 Z → jle Z5 Z → jin B Z → jk Z v1 11 → jk Z v2 12 → jk Z v3 15 → K23 v1 v2 v3 v4 Z I L → jJ G 8 23 [(0, .ref b), (1, .ref v1), (2, .ref v2), (3, .ref v3), (4, .int v4)] [] Z I L (k9 + (jcz Z - jcz Z5) + 27) (n9 + (jsz Z - jsz Z5) + 600)) (v1 : Nat) (v2 : Nat) (v3 : Nat) (v4 : Int32) (Z : jZ) (I : jI) (L : jL) (hZ : SH Z) (hx : jext Z0 Z) (hc : jle Z5 Z) (hb : jin B Z) (kv1 : jk Z v1 11) (kv2 : jk Z v2 12) (kv3 : jk Z v3 15) (h : f_L_law_b332 xs Ls B K23 v1 v2 v3 v4 Z I L) : jJ G 8 332 [(0, .ref b), (1, .ref v1), (2, .ref v2), (3, .ref v3), (4, .int v4)] [] Z I L (k9 + (jcz Z - jcz Z5) + 0) (n9 + (jsz Z - jsz Z5) + 0) := by
  unfold f_L_law_b332 at h
  refine j_aload_n E dL_law_332 1 rfl ?_
  refine j_aload_n E dL_law_333 0 rfl ?_
  refine j_iload E dL_law_334 4 rfl ?_
  refine j_iconst E (v := 1) dL_law_336 (by decide) ?_
  refine j_iadd E dL_law_337 ?_
  obtain ⟨o70, h⟩ := h
  refine j_sld E hX.1 hX.2.1 hX.2.2 o70 dL_law_338 ?_
  refine j_aload_n E dL_law_339 0 rfl ?_
  refine j_iload E dL_law_340 4 rfl ?_
  refine j_iconst E (v := 2) dL_law_342 (by decide) ?_
  refine j_iadd E dL_law_343 ?_
  obtain ⟨o71, h⟩ := h
  refine j_sld E hX.1 hX.2.1 hX.2.2 o71 dL_law_344 ?_
  refine j_aload_n E dL_law_345 3 rfl ?_
  refine j_callSH E hV [.ref v1, .int (xs (v4 + (1 : Int32)).toNatClampNeg), .int (xs (v4 + (2 : Int32)).toNatClampNeg), .ref v3] [] (c_L_step (gL G) hl0 (gD G) (gY G) v1 (xs (v4 + (1 : Int32)).toNatClampNeg) (xs (v4 + (2 : Int32)).toNatClampNeg) v3 Z I L _ hZ kv1 kv3 h) (gwS W_1242 W_1243 W_1241 W_1244) rfl fy_L_step ⟨by decide, by decide⟩ rfl rfl (Nat.le_of_ble_eq_true rfl) ⟨by show k9 + (jcz Z - jcz Z5) + 0 + 1 ≤ 601024; have := hb.1; omega, by show n9 + (jsz Z - jsz Z5) + 0 + 6 ≤ 7293034; have := hb.2; omega⟩ dL_law_346 (fun v72 Z73 I74 L75 q76 => ?_)
  obtain ⟨rfl, r78, rfl, h⟩ := q76
  show jJ G 8 349 [(0, .ref b), (1, .ref v1), (2, .ref v2), (3, .ref v3), (4, .int v4)] [.int r78] Z I74 L75 (k9 + (jcz Z - jcz Z5) + 1) (n9 + (jsz Z - jsz Z5) + 6)
  refine j_istore E 5 [(5, .int r78), (0, .ref b), (1, .ref v1), (2, .ref v2), (3, .ref v3), (4, .int v4)] dL_law_349 (by decide) rfl ?_
  refine j_aload_n E dL_law_351 3 rfl ?_
  refine j_aload_n E dL_law_352 1 rfl ?_
  refine j_iload E dL_law_353 5 rfl ?_
  refine j_iconst E (v := 1) dL_law_355 (by decide) ?_
  refine j_iadd E dL_law_356 ?_
  obtain ⟨o79, h⟩ := h
  refine j_sld E hX.1 hX.2.1 hX.2.2 o79 dL_law_357 ?_
  refine j_aload_n E dL_law_358 1 rfl ?_
  refine j_iload E dL_law_359 5 rfl ?_
  refine j_iconst E (v := 2) dL_law_361 (by decide) ?_
  refine j_iadd E dL_law_362 ?_
  obtain ⟨o80, h⟩ := h
  refine j_sld E hX.1 hX.2.1 hX.2.2 o80 dL_law_363 ?_
  refine j_callV E [.int (xs (v4 + (1 : Int32)).toNatClampNeg), .int (xs (v4 + (2 : Int32)).toNatClampNeg)] [] (c_X12_step (gL G) (gD G) (gY G) v2 (xs (v4 + (1 : Int32)).toNatClampNeg) (xs (v4 + (2 : Int32)).toNatClampNeg) Z I74 L75 _ hZ kv2 h) (gwV W_1246 W_1247 W_1248 W_695 W_1245) rfl ⟨rfl, fy_X12_step⟩ ⟨by decide, by decide⟩ (c := 12) rfl (by decide) kv2 rfl rfl (Nat.le_of_ble_eq_true rfl) ⟨by show k9 + (jcz Z - jcz Z5) + 1 + 0 ≤ 601024; have := hb.1; omega, by show n9 + (jsz Z - jsz Z5) + 6 + 0 ≤ 7293034; have := hb.2; omega⟩ dL_law_364 (fun v81 Z82 I83 L84 q85 => ?_)
  obtain ⟨rfl, r87, rfl, h⟩ := q85
  show jJ G 8 367 [(5, .int r78), (0, .ref b), (1, .ref v1), (2, .ref v2), (3, .ref v3), (4, .int v4)] [.int r87] Z I83 L84 (k9 + (jcz Z - jcz Z5) + 1) (n9 + (jsz Z - jsz Z5) + 6)
  refine j_istore E 6 [(6, .int r87), (5, .int r78), (0, .ref b), (1, .ref v1), (2, .ref v2), (3, .ref v3), (4, .int v4)] dL_law_367 (by decide) rfl ?_
  refine j_goto E 1732 dL_law_369 (by decide) ?_
  refine j_sub [2, 3, 4, 5, 6] rfl ?_
  refine j_widen (k9 := k9 + (jcz Z - jcz Z5) + 27) (n9 := n9 + (jsz Z - jsz Z5) + 600) (by show k9 + (jcz Z - jcz Z5) + 1 ≤ _; omega) (by show n9 + (jsz Z - jsz Z5) + 6 ≤ _; omega) ?_
  exact m_L_law_b1732 E hX hV hU hl0 hb9 hn9 K23 hK23 v1 v2 v3 v4 Z I83 L84 hZ hx hc hb kv1 kv2 kv3 h
set_option maxRecDepth 100000 in
def f_L_law_b372 (xs : Nat → Int32) (Ls : Nat) (B : Nat × Nat) (K23 : Nat → Nat → Nat → Int32 → jZ → jI → jL → Prop) (v1 : Nat) (v2 : Nat) (v3 : Nat) (v4 : Int32) (Z : jZ) (I : jI) (L : jL) : Prop := (vp_in (v4 + (1 : Int32)) Ls ∧ (vp_in (v4 + (2 : Int32)) Ls ∧ (vp_in (v4 + (3 : Int32)) Ls ∧ (f_X11_set v1 (xs (v4 + (1 : Int32)).toNatClampNeg) (xs (v4 + (2 : Int32)).toNatClampNeg) (xs (v4 + (3 : Int32)).toNatClampNeg) Z I L (fun r97 I93 L94 => (vp_in (v4 + (1 : Int32)) Ls ∧ (vp_in (v4 + (2 : Int32)) Ls ∧ (vp_in (v4 + (3 : Int32)) Ls ∧ (f_X12_set v2 (xs (v4 + (1 : Int32)).toNatClampNeg) (xs (v4 + (2 : Int32)).toNatClampNeg) (xs (v4 + (3 : Int32)).toNatClampNeg) Z I93 L94 (fun r107 I103 L104 => f_L_law_b1732 xs Ls B K23 v1 v2 v3 v4 Z I103 L104))))))))))
set_option maxHeartbeats 4000000 in
set_option maxRecDepth 100000 in
theorem m_L_law_b372 {G : jG} {Z0 : jZ} {xs : Nat → Int32} {Ls b k9 n9 sa sb : Nat} {B : Nat × Nat} {Z5 : jZ} (E : jE G cL_law RL (Cond.arrayClass .byte :: jT) 8 (some .boolean) room_1 jRL) (hX : va_X b Ls xs (gS G) (gS G).heap ∧ b < (gS G).heap.size ∧ ¬ gA G b) (hV : jV (gA G) (gS G) (gS G).heap) (hU : jU sa sb (gA G) (gS G) (gS G).heap) (hl0 : (gL G).stackTraces = false) (hb9 : k9 + 27 + (B.1 - jcz Z5) ≤ 601024) (hn9 : n9 + 600 + (B.2 - jsz Z5) ≤ 7293034) (K23 : Nat → Nat → Nat → Int32 → jZ → jI → jL → Prop) (hK23 : ∀ (v1 : Nat) (v2 : Nat) (v3 : Nat) (v4 : Int32) (Z : jZ) (I : jI) (L : jL), SH Z → jext Z0 Z → jle Z5 Z → jin B Z → jk Z v1 11 → jk Z v2 12 → jk Z v3 15 → K23 v1 v2 v3 v4 Z I L → jJ G 8 23 [(0, .ref b), (1, .ref v1), (2, .ref v2), (3, .ref v3), (4, .int v4)] [] Z I L (k9 + (jcz Z - jcz Z5) + 27) (n9 + (jsz Z - jsz Z5) + 600)) (v1 : Nat) (v2 : Nat) (v3 : Nat) (v4 : Int32) (Z : jZ) (I : jI) (L : jL) (hZ : SH Z) (hx : jext Z0 Z) (hc : jle Z5 Z) (hb : jin B Z) (kv1 : jk Z v1 11) (kv2 : jk Z v2 12) (kv3 : jk Z v3 15) (h : f_L_law_b372 xs Ls B K23 v1 v2 v3 v4 Z I L) : jJ G 8 372 [(0, .ref b), (1, .ref v1), (2, .ref v2), (3, .ref v3), (4, .int v4)] [] Z I L (k9 + (jcz Z - jcz Z5) + 0) (n9 + (jsz Z - jsz Z5) + 0) := by
  unfold f_L_law_b372 at h
  refine j_aload_n E dL_law_372 1 rfl ?_
  refine j_aload_n E dL_law_373 0 rfl ?_
  refine j_iload E dL_law_374 4 rfl ?_
  refine j_iconst E (v := 1) dL_law_376 (by decide) ?_
  refine j_iadd E dL_law_377 ?_
  obtain ⟨o88, h⟩ := h
  refine j_sld E hX.1 hX.2.1 hX.2.2 o88 dL_law_378 ?_
  refine j_aload_n E dL_law_379 0 rfl ?_
  refine j_iload E dL_law_380 4 rfl ?_
  refine j_iconst E (v := 2) dL_law_382 (by decide) ?_
  refine j_iadd E dL_law_383 ?_
  obtain ⟨o89, h⟩ := h
  refine j_sld E hX.1 hX.2.1 hX.2.2 o89 dL_law_384 ?_
  refine j_aload_n E dL_law_385 0 rfl ?_
  refine j_iload E dL_law_386 4 rfl ?_
  refine j_iconst E (v := 3) dL_law_388 (by decide) ?_
  refine j_iadd E dL_law_389 ?_
  obtain ⟨o90, h⟩ := h
  refine j_sld E hX.1 hX.2.1 hX.2.2 o90 dL_law_390 ?_
  refine j_callV E [.int (xs (v4 + (1 : Int32)).toNatClampNeg), .int (xs (v4 + (2 : Int32)).toNatClampNeg), .int (xs (v4 + (3 : Int32)).toNatClampNeg)] [] (c_X11_set (gL G) (gD G) (gY G) v1 (xs (v4 + (1 : Int32)).toNatClampNeg) (xs (v4 + (2 : Int32)).toNatClampNeg) (xs (v4 + (3 : Int32)).toNatClampNeg) Z I L _ hZ kv1 h) (gwV W_1250 W_1251 W_1252 W_40 W_1249) rfl ⟨rfl, fy_X11_set⟩ ⟨by decide, by decide⟩ (c := 11) rfl (by decide) kv1 rfl rfl (Nat.le_of_ble_eq_true rfl) ⟨by show k9 + (jcz Z - jcz Z5) + 0 + 0 ≤ 601024; have := hb.1; omega, by show n9 + (jsz Z - jsz Z5) + 0 + 0 ≤ 7293034; have := hb.2; omega⟩ dL_law_391 (fun v91 Z92 I93 L94 q95 => ?_)
  obtain ⟨rfl, r97, rfl, h⟩ := q95
  show jJ G 8 394 [(0, .ref b), (1, .ref v1), (2, .ref v2), (3, .ref v3), (4, .int v4)] [.int r97] Z I93 L94 (k9 + (jcz Z - jcz Z5) + 0) (n9 + (jsz Z - jsz Z5) + 0)
  refine j_pop E dL_law_394 rfl ?_
  refine j_aload_n E dL_law_395 2 rfl ?_
  refine j_aload_n E dL_law_396 0 rfl ?_
  refine j_iload E dL_law_397 4 rfl ?_
  refine j_iconst E (v := 1) dL_law_399 (by decide) ?_
  refine j_iadd E dL_law_400 ?_
  obtain ⟨o98, h⟩ := h
  refine j_sld E hX.1 hX.2.1 hX.2.2 o98 dL_law_401 ?_
  refine j_aload_n E dL_law_402 0 rfl ?_
  refine j_iload E dL_law_403 4 rfl ?_
  refine j_iconst E (v := 2) dL_law_405 (by decide) ?_
  refine j_iadd E dL_law_406 ?_
  obtain ⟨o99, h⟩ := h
  refine j_sld E hX.1 hX.2.1 hX.2.2 o99 dL_law_407 ?_
  refine j_aload_n E dL_law_408 0 rfl ?_
  refine j_iload E dL_law_409 4 rfl ?_
  refine j_iconst E (v := 3) dL_law_411 (by decide) ?_
  refine j_iadd E dL_law_412 ?_
  obtain ⟨o100, h⟩ := h
  refine j_sld E hX.1 hX.2.1 hX.2.2 o100 dL_law_413 ?_
  refine j_callV E [.int (xs (v4 + (1 : Int32)).toNatClampNeg), .int (xs (v4 + (2 : Int32)).toNatClampNeg), .int (xs (v4 + (3 : Int32)).toNatClampNeg)] [] (c_X12_set (gL G) (gD G) (gY G) v2 (xs (v4 + (1 : Int32)).toNatClampNeg) (xs (v4 + (2 : Int32)).toNatClampNeg) (xs (v4 + (3 : Int32)).toNatClampNeg) Z I93 L94 _ hZ kv2 h) (gwV W_1254 W_1255 W_1256 W_695 W_1253) rfl ⟨rfl, fy_X12_set⟩ ⟨by decide, by decide⟩ (c := 12) rfl (by decide) kv2 rfl rfl (Nat.le_of_ble_eq_true rfl) ⟨by show k9 + (jcz Z - jcz Z5) + 0 + 0 ≤ 601024; have := hb.1; omega, by show n9 + (jsz Z - jsz Z5) + 0 + 0 ≤ 7293034; have := hb.2; omega⟩ dL_law_414 (fun v101 Z102 I103 L104 q105 => ?_)
  obtain ⟨rfl, r107, rfl, h⟩ := q105
  show jJ G 8 417 [(0, .ref b), (1, .ref v1), (2, .ref v2), (3, .ref v3), (4, .int v4)] [.int r107] Z I103 L104 (k9 + (jcz Z - jcz Z5) + 0) (n9 + (jsz Z - jsz Z5) + 0)
  refine j_pop E dL_law_417 rfl ?_
  refine j_goto E 1732 dL_law_418 (by decide) ?_
  refine j_sub [0, 1, 2, 3, 4] rfl ?_
  refine j_widen (k9 := k9 + (jcz Z - jcz Z5) + 27) (n9 := n9 + (jsz Z - jsz Z5) + 600) (by show k9 + (jcz Z - jcz Z5) + 0 ≤ _; omega) (by show n9 + (jsz Z - jsz Z5) + 0 ≤ _; omega) ?_
  exact m_L_law_b1732 E hX hV hU hl0 hb9 hn9 K23 hK23 v1 v2 v3 v4 Z I103 L104 hZ hx hc hb kv1 kv2 kv3 h
set_option maxRecDepth 100000 in
def f_L_law_b421 (xs : Nat → Int32) (Ls : Nat) (B : Nat × Nat) (K23 : Nat → Nat → Nat → Int32 → jZ → jI → jL → Prop) (v1 : Nat) (v2 : Nat) (v3 : Nat) (v4 : Int32) (Z : jZ) (I : jI) (L : jL) : Prop := (vp_in (v4 + (1 : Int32)) Ls ∧ (vp_in (v4 + (2 : Int32)) Ls ∧ (vp_in (v4 + (3 : Int32)) Ls ∧ (vp_in (v4 + (4 : Int32)) Ls ∧ (f_X11_sheet v1 (xs (v4 + (1 : Int32)).toNatClampNeg) (xs (v4 + (2 : Int32)).toNatClampNeg) (xs (v4 + (3 : Int32)).toNatClampNeg) (xs (v4 + (4 : Int32)).toNatClampNeg) Z I L (fun r118 I114 L115 => (vp_in (v4 + (1 : Int32)) Ls ∧ (vp_in (v4 + (2 : Int32)) Ls ∧ (vp_in (v4 + (3 : Int32)) Ls ∧ (vp_in (v4 + (4 : Int32)) Ls ∧ (f_X12_sheet v2 (xs (v4 + (1 : Int32)).toNatClampNeg) (xs (v4 + (2 : Int32)).toNatClampNeg) (xs (v4 + (3 : Int32)).toNatClampNeg) (xs (v4 + (4 : Int32)).toNatClampNeg) Z I114 L115 (fun r129 I125 L126 => f_L_law_b1732 xs Ls B K23 v1 v2 v3 v4 Z I125 L126))))))))))))
set_option maxHeartbeats 4000000 in
set_option maxRecDepth 100000 in
theorem m_L_law_b421 {G : jG} {Z0 : jZ} {xs : Nat → Int32} {Ls b k9 n9 sa sb : Nat} {B : Nat × Nat} {Z5 : jZ} (E : jE G cL_law RL (Cond.arrayClass .byte :: jT) 8 (some .boolean) room_1 jRL) (hX : va_X b Ls xs (gS G) (gS G).heap ∧ b < (gS G).heap.size ∧ ¬ gA G b) (hV : jV (gA G) (gS G) (gS G).heap) (hU : jU sa sb (gA G) (gS G) (gS G).heap) (hl0 : (gL G).stackTraces = false) (hb9 : k9 + 27 + (B.1 - jcz Z5) ≤ 601024) (hn9 : n9 + 600 + (B.2 - jsz Z5) ≤ 7293034) (K23 : Nat → Nat → Nat → Int32 → jZ → jI → jL → Prop) (hK23 : ∀ (v1 : Nat) (v2 : Nat) (v3 : Nat) (v4 : Int32) (Z : jZ) (I : jI) (L : jL), SH Z → jext Z0 Z → jle Z5 Z → jin B Z → jk Z v1 11 → jk Z v2 12 → jk Z v3 15 → K23 v1 v2 v3 v4 Z I L → jJ G 8 23 [(0, .ref b), (1, .ref v1), (2, .ref v2), (3, .ref v3), (4, .int v4)] [] Z I L (k9 + (jcz Z - jcz Z5) + 27) (n9 + (jsz Z - jsz Z5) + 600)) (v1 : Nat) (v2 : Nat) (v3 : Nat) (v4 : Int32) (Z : jZ) (I : jI) (L : jL) (hZ : SH Z) (hx : jext Z0 Z) (hc : jle Z5 Z) (hb : jin B Z) (kv1 : jk Z v1 11) (kv2 : jk Z v2 12) (kv3 : jk Z v3 15) (h : f_L_law_b421 xs Ls B K23 v1 v2 v3 v4 Z I L) : jJ G 8 421 [(0, .ref b), (1, .ref v1), (2, .ref v2), (3, .ref v3), (4, .int v4)] [] Z I L (k9 + (jcz Z - jcz Z5) + 0) (n9 + (jsz Z - jsz Z5) + 0) := by
  unfold f_L_law_b421 at h
  refine j_aload_n E dL_law_421 1 rfl ?_
  refine j_aload_n E dL_law_422 0 rfl ?_
  refine j_iload E dL_law_423 4 rfl ?_
  refine j_iconst E (v := 1) dL_law_425 (by decide) ?_
  refine j_iadd E dL_law_426 ?_
  obtain ⟨o108, h⟩ := h
  refine j_sld E hX.1 hX.2.1 hX.2.2 o108 dL_law_427 ?_
  refine j_aload_n E dL_law_428 0 rfl ?_
  refine j_iload E dL_law_429 4 rfl ?_
  refine j_iconst E (v := 2) dL_law_431 (by decide) ?_
  refine j_iadd E dL_law_432 ?_
  obtain ⟨o109, h⟩ := h
  refine j_sld E hX.1 hX.2.1 hX.2.2 o109 dL_law_433 ?_
  refine j_aload_n E dL_law_434 0 rfl ?_
  refine j_iload E dL_law_435 4 rfl ?_
  refine j_iconst E (v := 3) dL_law_437 (by decide) ?_
  refine j_iadd E dL_law_438 ?_
  obtain ⟨o110, h⟩ := h
  refine j_sld E hX.1 hX.2.1 hX.2.2 o110 dL_law_439 ?_
  refine j_aload_n E dL_law_440 0 rfl ?_
  refine j_iload E dL_law_441 4 rfl ?_
  refine j_iconst E (v := 4) dL_law_443 (by decide) ?_
  refine j_iadd E dL_law_444 ?_
  obtain ⟨o111, h⟩ := h
  refine j_sld E hX.1 hX.2.1 hX.2.2 o111 dL_law_445 ?_
  refine j_callV E [.int (xs (v4 + (1 : Int32)).toNatClampNeg), .int (xs (v4 + (2 : Int32)).toNatClampNeg), .int (xs (v4 + (3 : Int32)).toNatClampNeg), .int (xs (v4 + (4 : Int32)).toNatClampNeg)] [] (c_X11_sheet (gL G) (gD G) (gY G) v1 (xs (v4 + (1 : Int32)).toNatClampNeg) (xs (v4 + (2 : Int32)).toNatClampNeg) (xs (v4 + (3 : Int32)).toNatClampNeg) (xs (v4 + (4 : Int32)).toNatClampNeg) Z I L _ hZ kv1 h) (gwV W_1258 W_1259 W_1260 W_40 W_1257) rfl ⟨rfl, fy_X11_sheet⟩ ⟨by decide, by decide⟩ (c := 11) rfl (by decide) kv1 rfl rfl (Nat.le_of_ble_eq_true rfl) ⟨by show k9 + (jcz Z - jcz Z5) + 0 + 0 ≤ 601024; have := hb.1; omega, by show n9 + (jsz Z - jsz Z5) + 0 + 0 ≤ 7293034; have := hb.2; omega⟩ dL_law_446 (fun v112 Z113 I114 L115 q116 => ?_)
  obtain ⟨rfl, r118, rfl, h⟩ := q116
  show jJ G 8 449 [(0, .ref b), (1, .ref v1), (2, .ref v2), (3, .ref v3), (4, .int v4)] [.int r118] Z I114 L115 (k9 + (jcz Z - jcz Z5) + 0) (n9 + (jsz Z - jsz Z5) + 0)
  refine j_pop E dL_law_449 rfl ?_
  refine j_aload_n E dL_law_450 2 rfl ?_
  refine j_aload_n E dL_law_451 0 rfl ?_
  refine j_iload E dL_law_452 4 rfl ?_
  refine j_iconst E (v := 1) dL_law_454 (by decide) ?_
  refine j_iadd E dL_law_455 ?_
  obtain ⟨o119, h⟩ := h
  refine j_sld E hX.1 hX.2.1 hX.2.2 o119 dL_law_456 ?_
  refine j_aload_n E dL_law_457 0 rfl ?_
  refine j_iload E dL_law_458 4 rfl ?_
  refine j_iconst E (v := 2) dL_law_460 (by decide) ?_
  refine j_iadd E dL_law_461 ?_
  obtain ⟨o120, h⟩ := h
  refine j_sld E hX.1 hX.2.1 hX.2.2 o120 dL_law_462 ?_
  refine j_aload_n E dL_law_463 0 rfl ?_
  refine j_iload E dL_law_464 4 rfl ?_
  refine j_iconst E (v := 3) dL_law_466 (by decide) ?_
  refine j_iadd E dL_law_467 ?_
  obtain ⟨o121, h⟩ := h
  refine j_sld E hX.1 hX.2.1 hX.2.2 o121 dL_law_468 ?_
  refine j_aload_n E dL_law_469 0 rfl ?_
  refine j_iload E dL_law_470 4 rfl ?_
  refine j_iconst E (v := 4) dL_law_472 (by decide) ?_
  refine j_iadd E dL_law_473 ?_
  obtain ⟨o122, h⟩ := h
  refine j_sld E hX.1 hX.2.1 hX.2.2 o122 dL_law_474 ?_
  refine j_callV E [.int (xs (v4 + (1 : Int32)).toNatClampNeg), .int (xs (v4 + (2 : Int32)).toNatClampNeg), .int (xs (v4 + (3 : Int32)).toNatClampNeg), .int (xs (v4 + (4 : Int32)).toNatClampNeg)] [] (c_X12_sheet (gL G) (gD G) (gY G) v2 (xs (v4 + (1 : Int32)).toNatClampNeg) (xs (v4 + (2 : Int32)).toNatClampNeg) (xs (v4 + (3 : Int32)).toNatClampNeg) (xs (v4 + (4 : Int32)).toNatClampNeg) Z I114 L115 _ hZ kv2 h) (gwV W_1262 W_1263 W_1264 W_695 W_1261) rfl ⟨rfl, fy_X12_sheet⟩ ⟨by decide, by decide⟩ (c := 12) rfl (by decide) kv2 rfl rfl (Nat.le_of_ble_eq_true rfl) ⟨by show k9 + (jcz Z - jcz Z5) + 0 + 0 ≤ 601024; have := hb.1; omega, by show n9 + (jsz Z - jsz Z5) + 0 + 0 ≤ 7293034; have := hb.2; omega⟩ dL_law_475 (fun v123 Z124 I125 L126 q127 => ?_)
  obtain ⟨rfl, r129, rfl, h⟩ := q127
  show jJ G 8 478 [(0, .ref b), (1, .ref v1), (2, .ref v2), (3, .ref v3), (4, .int v4)] [.int r129] Z I125 L126 (k9 + (jcz Z - jcz Z5) + 0) (n9 + (jsz Z - jsz Z5) + 0)
  refine j_pop E dL_law_478 rfl ?_
  refine j_goto E 1732 dL_law_479 (by decide) ?_
  refine j_sub [0, 1, 2, 3, 4] rfl ?_
  refine j_widen (k9 := k9 + (jcz Z - jcz Z5) + 27) (n9 := n9 + (jsz Z - jsz Z5) + 600) (by show k9 + (jcz Z - jcz Z5) + 0 ≤ _; omega) (by show n9 + (jsz Z - jsz Z5) + 0 ≤ _; omega) ?_
  exact m_L_law_b1732 E hX hV hU hl0 hb9 hn9 K23 hK23 v1 v2 v3 v4 Z I125 L126 hZ hx hc hb kv1 kv2 kv3 h
set_option maxRecDepth 100000 in
def f_L_law_b540 (xs : Nat → Int32) (Ls : Nat) (B : Nat × Nat) (K23 : Nat → Nat → Nat → Int32 → jZ → jI → jL → Prop) (v1 : Nat) (v2 : Nat) (v3 : Nat) (v4 : Int32) (s0 : Nat) (s1 : Int32) (s2 : Int32) (s3 : Int32) (Z : jZ) (I : jI) (L : jL) : Prop := (f_X12_feud s0 s1 s2 s3 Z I L (fun r136 I132 L133 => f_L_law_b1732 xs Ls B K23 v1 v2 v3 v4 Z I132 L133))
set_option maxHeartbeats 4000000 in
set_option maxRecDepth 100000 in
theorem m_L_law_b540 {G : jG} {Z0 : jZ} {xs : Nat → Int32} {Ls b k9 n9 sa sb : Nat} {B : Nat × Nat} {Z5 : jZ} (E : jE G cL_law RL (Cond.arrayClass .byte :: jT) 8 (some .boolean) room_1 jRL) (hX : va_X b Ls xs (gS G) (gS G).heap ∧ b < (gS G).heap.size ∧ ¬ gA G b) (hV : jV (gA G) (gS G) (gS G).heap) (hU : jU sa sb (gA G) (gS G) (gS G).heap) (hl0 : (gL G).stackTraces = false) (hb9 : k9 + 27 + (B.1 - jcz Z5) ≤ 601024) (hn9 : n9 + 600 + (B.2 - jsz Z5) ≤ 7293034) (K23 : Nat → Nat → Nat → Int32 → jZ → jI → jL → Prop) (hK23 : ∀ (v1 : Nat) (v2 : Nat) (v3 : Nat) (v4 : Int32) (Z : jZ) (I : jI) (L : jL), SH Z → jext Z0 Z → jle Z5 Z → jin B Z → jk Z v1 11 → jk Z v2 12 → jk Z v3 15 → K23 v1 v2 v3 v4 Z I L → jJ G 8 23 [(0, .ref b), (1, .ref v1), (2, .ref v2), (3, .ref v3), (4, .int v4)] [] Z I L (k9 + (jcz Z - jcz Z5) + 27) (n9 + (jsz Z - jsz Z5) + 600)) (v1 : Nat) (v2 : Nat) (v3 : Nat) (v4 : Int32) (s0 : Nat) (s1 : Int32) (s2 : Int32) (s3 : Int32) (Z : jZ) (I : jI) (L : jL) (hZ : SH Z) (hx : jext Z0 Z) (hc : jle Z5 Z) (hb : jin B Z) (kv1 : jk Z v1 11) (kv2 : jk Z v2 12) (kv3 : jk Z v3 15) (ks0 : jk Z s0 12) (h : f_L_law_b540 xs Ls B K23 v1 v2 v3 v4 s0 s1 s2 s3 Z I L) : jJ G 8 540 [(0, .ref b), (1, .ref v1), (2, .ref v2), (3, .ref v3), (4, .int v4)] [.int s3, .int s2, .int s1, .ref s0] Z I L (k9 + (jcz Z - jcz Z5) + 27) (n9 + (jsz Z - jsz Z5) + 600) := by
  unfold f_L_law_b540 at h
  refine j_callV E [.int s1, .int s2, .int s3] [] (c_X12_feud (gL G) (gD G) (gY G) s0 s1 s2 s3 Z I L _ hZ ks0 h) (gwV W_1266 W_1267 W_1268 W_695 W_1265) rfl ⟨rfl, fy_X12_feud⟩ ⟨by decide, by decide⟩ (c := 12) rfl (by decide) ks0 rfl rfl (Nat.le_of_ble_eq_true rfl) ⟨by show k9 + (jcz Z - jcz Z5) + 27 + 0 ≤ 601024; have := hb.1; omega, by show n9 + (jsz Z - jsz Z5) + 600 + 0 ≤ 7293034; have := hb.2; omega⟩ dL_law_540 (fun v130 Z131 I132 L133 q134 => ?_)
  obtain ⟨rfl, r136, rfl, zr136, h⟩ := q134
  show jJ G 8 543 [(0, .ref b), (1, .ref v1), (2, .ref v2), (3, .ref v3), (4, .int v4)] [.int r136] Z I132 L133 (k9 + (jcz Z - jcz Z5) + 27) (n9 + (jsz Z - jsz Z5) + 600)
  refine j_pop E dL_law_543 rfl ?_
  refine j_goto E 1732 dL_law_544 (by decide) ?_
  refine j_sub [0, 1, 2, 3, 4] rfl ?_
  refine j_widen (k9 := k9 + (jcz Z - jcz Z5) + 27) (n9 := n9 + (jsz Z - jsz Z5) + 600) (by show k9 + (jcz Z - jcz Z5) + 27 ≤ _; omega) (by show n9 + (jsz Z - jsz Z5) + 600 ≤ _; omega) ?_
  exact m_L_law_b1732 E hX hV hU hl0 hb9 hn9 K23 hK23 v1 v2 v3 v4 Z I132 L133 hZ hx hc hb kv1 kv2 kv3 h
set_option maxRecDepth 100000 in
def f_L_law_b509 (xs : Nat → Int32) (Ls : Nat) (B : Nat × Nat) (K23 : Nat → Nat → Nat → Int32 → jZ → jI → jL → Prop) (v1 : Nat) (v2 : Nat) (v3 : Nat) (v4 : Int32) (s0 : Nat) (s1 : Int32) (s2 : Int32) (s3 : Int32) (Z : jZ) (I : jI) (L : jL) : Prop := (f_X11_feud s0 s1 s2 s3 Z I L (fun r143 I139 L140 => (vp_in (v4 + (1 : Int32)) Ls ∧ (vp_in (v4 + (2 : Int32)) Ls ∧ (vp_in (v4 + (3 : Int32)) Ls ∧ (((xs (v4 + (3 : Int32)).toNatClampNeg) = 0 → f_L_law_b540 xs Ls B K23 v1 v2 v3 v4 v2 (xs (v4 + (1 : Int32)).toNatClampNeg) (xs (v4 + (2 : Int32)).toNatClampNeg) (0 : Int32) Z I139 L140) ∧ (¬ ((xs (v4 + (3 : Int32)).toNatClampNeg) = 0) → f_L_law_b540 xs Ls B K23 v1 v2 v3 v4 v2 (xs (v4 + (1 : Int32)).toNatClampNeg) (xs (v4 + (2 : Int32)).toNatClampNeg) (1 : Int32) Z I139 L140)))))))
set_option maxHeartbeats 4000000 in
set_option maxRecDepth 100000 in
theorem m_L_law_b509 {G : jG} {Z0 : jZ} {xs : Nat → Int32} {Ls b k9 n9 sa sb : Nat} {B : Nat × Nat} {Z5 : jZ} (E : jE G cL_law RL (Cond.arrayClass .byte :: jT) 8 (some .boolean) room_1 jRL) (hX : va_X b Ls xs (gS G) (gS G).heap ∧ b < (gS G).heap.size ∧ ¬ gA G b) (hV : jV (gA G) (gS G) (gS G).heap) (hU : jU sa sb (gA G) (gS G) (gS G).heap) (hl0 : (gL G).stackTraces = false) (hb9 : k9 + 27 + (B.1 - jcz Z5) ≤ 601024) (hn9 : n9 + 600 + (B.2 - jsz Z5) ≤ 7293034) (K23 : Nat → Nat → Nat → Int32 → jZ → jI → jL → Prop) (hK23 : ∀ (v1 : Nat) (v2 : Nat) (v3 : Nat) (v4 : Int32) (Z : jZ) (I : jI) (L : jL), SH Z → jext Z0 Z → jle Z5 Z → jin B Z → jk Z v1 11 → jk Z v2 12 → jk Z v3 15 → K23 v1 v2 v3 v4 Z I L → jJ G 8 23 [(0, .ref b), (1, .ref v1), (2, .ref v2), (3, .ref v3), (4, .int v4)] [] Z I L (k9 + (jcz Z - jcz Z5) + 27) (n9 + (jsz Z - jsz Z5) + 600)) (v1 : Nat) (v2 : Nat) (v3 : Nat) (v4 : Int32) (s0 : Nat) (s1 : Int32) (s2 : Int32) (s3 : Int32) (Z : jZ) (I : jI) (L : jL) (hZ : SH Z) (hx : jext Z0 Z) (hc : jle Z5 Z) (hb : jin B Z) (kv1 : jk Z v1 11) (kv2 : jk Z v2 12) (kv3 : jk Z v3 15) (ks0 : jk Z s0 11) (h : f_L_law_b509 xs Ls B K23 v1 v2 v3 v4 s0 s1 s2 s3 Z I L) : jJ G 8 509 [(0, .ref b), (1, .ref v1), (2, .ref v2), (3, .ref v3), (4, .int v4)] [.int s3, .int s2, .int s1, .ref s0] Z I L (k9 + (jcz Z - jcz Z5) + 27) (n9 + (jsz Z - jsz Z5) + 600) := by
  unfold f_L_law_b509 at h
  refine j_callV E [.int s1, .int s2, .int s3] [] (c_X11_feud (gL G) (gD G) (gY G) s0 s1 s2 s3 Z I L _ hZ ks0 h) (gwV W_1270 W_1271 W_1272 W_40 W_1269) rfl ⟨rfl, fy_X11_feud⟩ ⟨by decide, by decide⟩ (c := 11) rfl (by decide) ks0 rfl rfl (Nat.le_of_ble_eq_true rfl) ⟨by show k9 + (jcz Z - jcz Z5) + 27 + 0 ≤ 601024; have := hb.1; omega, by show n9 + (jsz Z - jsz Z5) + 600 + 0 ≤ 7293034; have := hb.2; omega⟩ dL_law_509 (fun v137 Z138 I139 L140 q141 => ?_)
  obtain ⟨rfl, r143, rfl, zr143, h⟩ := q141
  show jJ G 8 512 [(0, .ref b), (1, .ref v1), (2, .ref v2), (3, .ref v3), (4, .int v4)] [.int r143] Z I139 L140 (k9 + (jcz Z - jcz Z5) + 27) (n9 + (jsz Z - jsz Z5) + 600)
  refine j_pop E dL_law_512 rfl ?_
  refine j_aload_n E dL_law_513 2 rfl ?_
  refine j_aload_n E dL_law_514 0 rfl ?_
  refine j_iload E dL_law_515 4 rfl ?_
  refine j_iconst E (v := 1) dL_law_517 (by decide) ?_
  refine j_iadd E dL_law_518 ?_
  obtain ⟨o144, h⟩ := h
  refine j_sld E hX.1 hX.2.1 hX.2.2 o144 dL_law_519 ?_
  refine j_aload_n E dL_law_520 0 rfl ?_
  refine j_iload E dL_law_521 4 rfl ?_
  refine j_iconst E (v := 2) dL_law_523 (by decide) ?_
  refine j_iadd E dL_law_524 ?_
  obtain ⟨o145, h⟩ := h
  refine j_sld E hX.1 hX.2.1 hX.2.2 o145 dL_law_525 ?_
  refine j_aload_n E dL_law_526 0 rfl ?_
  refine j_iload E dL_law_527 4 rfl ?_
  refine j_iconst E (v := 3) dL_law_529 (by decide) ?_
  refine j_iadd E dL_law_530 ?_
  obtain ⟨o146, h⟩ := h
  refine j_sld E hX.1 hX.2.1 hX.2.2 o146 dL_law_531 ?_
  refine j_if_eq E 539 dL_law_532 (by decide) (fun c147 => ?_) (fun c147 => ?_)
  · have h := h.1 c147
    refine j_iconst E (v := 0) dL_law_539 (by decide) ?_
    refine j_sub [0, 1, 2, 3, 4] rfl ?_
    refine j_widen (k9 := k9 + (jcz Z - jcz Z5) + 27) (n9 := n9 + (jsz Z - jsz Z5) + 600) (by show k9 + (jcz Z - jcz Z5) + 27 ≤ _; omega) (by show n9 + (jsz Z - jsz Z5) + 600 ≤ _; omega) ?_
    exact m_L_law_b540 E hX hV hU hl0 hb9 hn9 K23 hK23 v1 v2 v3 v4 v2 (xs (v4 + (1 : Int32)).toNatClampNeg) (xs (v4 + (2 : Int32)).toNatClampNeg) (0 : Int32) Z I139 L140 hZ hx hc hb kv1 kv2 kv3 kv2 h
  · have h := h.2 c147
    refine j_iconst E (v := 1) dL_law_535 (by decide) ?_
    refine j_goto E 540 dL_law_536 (by decide) ?_
    refine j_sub [0, 1, 2, 3, 4] rfl ?_
    refine j_widen (k9 := k9 + (jcz Z - jcz Z5) + 27) (n9 := n9 + (jsz Z - jsz Z5) + 600) (by show k9 + (jcz Z - jcz Z5) + 27 ≤ _; omega) (by show n9 + (jsz Z - jsz Z5) + 600 ≤ _; omega) ?_
    exact m_L_law_b540 E hX hV hU hl0 hb9 hn9 K23 hK23 v1 v2 v3 v4 v2 (xs (v4 + (1 : Int32)).toNatClampNeg) (xs (v4 + (2 : Int32)).toNatClampNeg) (1 : Int32) Z I139 L140 hZ hx hc hb kv1 kv2 kv3 kv2 h
set_option maxRecDepth 100000 in
def f_L_law_b482 (xs : Nat → Int32) (Ls : Nat) (B : Nat × Nat) (K23 : Nat → Nat → Nat → Int32 → jZ → jI → jL → Prop) (v1 : Nat) (v2 : Nat) (v3 : Nat) (v4 : Int32) (Z : jZ) (I : jI) (L : jL) : Prop := (vp_in (v4 + (1 : Int32)) Ls ∧ (vp_in (v4 + (2 : Int32)) Ls ∧ (vp_in (v4 + (3 : Int32)) Ls ∧ (((xs (v4 + (3 : Int32)).toNatClampNeg) = 0 → f_L_law_b509 xs Ls B K23 v1 v2 v3 v4 v1 (xs (v4 + (1 : Int32)).toNatClampNeg) (xs (v4 + (2 : Int32)).toNatClampNeg) (0 : Int32) Z I L) ∧ (¬ ((xs (v4 + (3 : Int32)).toNatClampNeg) = 0) → f_L_law_b509 xs Ls B K23 v1 v2 v3 v4 v1 (xs (v4 + (1 : Int32)).toNatClampNeg) (xs (v4 + (2 : Int32)).toNatClampNeg) (1 : Int32) Z I L)))))
set_option maxHeartbeats 4000000 in
set_option maxRecDepth 100000 in
theorem m_L_law_b482 {G : jG} {Z0 : jZ} {xs : Nat → Int32} {Ls b k9 n9 sa sb : Nat} {B : Nat × Nat} {Z5 : jZ} (E : jE G cL_law RL (Cond.arrayClass .byte :: jT) 8 (some .boolean) room_1 jRL) (hX : va_X b Ls xs (gS G) (gS G).heap ∧ b < (gS G).heap.size ∧ ¬ gA G b) (hV : jV (gA G) (gS G) (gS G).heap) (hU : jU sa sb (gA G) (gS G) (gS G).heap) (hl0 : (gL G).stackTraces = false) (hb9 : k9 + 27 + (B.1 - jcz Z5) ≤ 601024) (hn9 : n9 + 600 + (B.2 - jsz Z5) ≤ 7293034) (K23 : Nat → Nat → Nat → Int32 → jZ → jI → jL → Prop) (hK23 : ∀ (v1 : Nat) (v2 : Nat) (v3 : Nat) (v4 : Int32) (Z : jZ) (I : jI) (L : jL), SH Z → jext Z0 Z → jle Z5 Z → jin B Z → jk Z v1 11 → jk Z v2 12 → jk Z v3 15 → K23 v1 v2 v3 v4 Z I L → jJ G 8 23 [(0, .ref b), (1, .ref v1), (2, .ref v2), (3, .ref v3), (4, .int v4)] [] Z I L (k9 + (jcz Z - jcz Z5) + 27) (n9 + (jsz Z - jsz Z5) + 600)) (v1 : Nat) (v2 : Nat) (v3 : Nat) (v4 : Int32) (Z : jZ) (I : jI) (L : jL) (hZ : SH Z) (hx : jext Z0 Z) (hc : jle Z5 Z) (hb : jin B Z) (kv1 : jk Z v1 11) (kv2 : jk Z v2 12) (kv3 : jk Z v3 15) (h : f_L_law_b482 xs Ls B K23 v1 v2 v3 v4 Z I L) : jJ G 8 482 [(0, .ref b), (1, .ref v1), (2, .ref v2), (3, .ref v3), (4, .int v4)] [] Z I L (k9 + (jcz Z - jcz Z5) + 0) (n9 + (jsz Z - jsz Z5) + 0) := by
  unfold f_L_law_b482 at h
  refine j_aload_n E dL_law_482 1 rfl ?_
  refine j_aload_n E dL_law_483 0 rfl ?_
  refine j_iload E dL_law_484 4 rfl ?_
  refine j_iconst E (v := 1) dL_law_486 (by decide) ?_
  refine j_iadd E dL_law_487 ?_
  obtain ⟨o148, h⟩ := h
  refine j_sld E hX.1 hX.2.1 hX.2.2 o148 dL_law_488 ?_
  refine j_aload_n E dL_law_489 0 rfl ?_
  refine j_iload E dL_law_490 4 rfl ?_
  refine j_iconst E (v := 2) dL_law_492 (by decide) ?_
  refine j_iadd E dL_law_493 ?_
  obtain ⟨o149, h⟩ := h
  refine j_sld E hX.1 hX.2.1 hX.2.2 o149 dL_law_494 ?_
  refine j_aload_n E dL_law_495 0 rfl ?_
  refine j_iload E dL_law_496 4 rfl ?_
  refine j_iconst E (v := 3) dL_law_498 (by decide) ?_
  refine j_iadd E dL_law_499 ?_
  obtain ⟨o150, h⟩ := h
  refine j_sld E hX.1 hX.2.1 hX.2.2 o150 dL_law_500 ?_
  refine j_if_eq E 508 dL_law_501 (by decide) (fun c151 => ?_) (fun c151 => ?_)
  · have h := h.1 c151
    refine j_iconst E (v := 0) dL_law_508 (by decide) ?_
    refine j_sub [0, 1, 2, 3, 4] rfl ?_
    refine j_widen (k9 := k9 + (jcz Z - jcz Z5) + 27) (n9 := n9 + (jsz Z - jsz Z5) + 600) (by show k9 + (jcz Z - jcz Z5) + 0 ≤ _; omega) (by show n9 + (jsz Z - jsz Z5) + 0 ≤ _; omega) ?_
    exact m_L_law_b509 E hX hV hU hl0 hb9 hn9 K23 hK23 v1 v2 v3 v4 v1 (xs (v4 + (1 : Int32)).toNatClampNeg) (xs (v4 + (2 : Int32)).toNatClampNeg) (0 : Int32) Z I L hZ hx hc hb kv1 kv2 kv3 kv1 h
  · have h := h.2 c151
    refine j_iconst E (v := 1) dL_law_504 (by decide) ?_
    refine j_goto E 509 dL_law_505 (by decide) ?_
    refine j_sub [0, 1, 2, 3, 4] rfl ?_
    refine j_widen (k9 := k9 + (jcz Z - jcz Z5) + 27) (n9 := n9 + (jsz Z - jsz Z5) + 600) (by show k9 + (jcz Z - jcz Z5) + 0 ≤ _; omega) (by show n9 + (jsz Z - jsz Z5) + 0 ≤ _; omega) ?_
    exact m_L_law_b509 E hX hV hU hl0 hb9 hn9 K23 hK23 v1 v2 v3 v4 v1 (xs (v4 + (1 : Int32)).toNatClampNeg) (xs (v4 + (2 : Int32)).toNatClampNeg) (1 : Int32) Z I L hZ hx hc hb kv1 kv2 kv3 kv1 h
set_option maxRecDepth 100000 in
def f_L_law_b547 (xs : Nat → Int32) (Ls : Nat) (B : Nat × Nat) (K23 : Nat → Nat → Nat → Int32 → jZ → jI → jL → Prop) (v1 : Nat) (v2 : Nat) (v3 : Nat) (v4 : Int32) (Z : jZ) (I : jI) (L : jL) : Prop := (vp_in (v4 + (1 : Int32)) Ls ∧ (f_X11_wears v1 (xs (v4 + (1 : Int32)).toNatClampNeg) Z I L (fun r159 I155 L156 => (vp_in (v4 + (1 : Int32)) Ls ∧ (f_X12_wears v2 (xs (v4 + (1 : Int32)).toNatClampNeg) Z I155 L156 (fun r167 I163 L164 => f_L_law_b1732 xs Ls B K23 v1 v2 v3 v4 Z I163 L164))))))
set_option maxHeartbeats 4000000 in
set_option maxRecDepth 100000 in
theorem m_L_law_b547 {G : jG} {Z0 : jZ} {xs : Nat → Int32} {Ls b k9 n9 sa sb : Nat} {B : Nat × Nat} {Z5 : jZ} (E : jE G cL_law RL (Cond.arrayClass .byte :: jT) 8 (some .boolean) room_1 jRL) (hX : va_X b Ls xs (gS G) (gS G).heap ∧ b < (gS G).heap.size ∧ ¬ gA G b) (hV : jV (gA G) (gS G) (gS G).heap) (hU : jU sa sb (gA G) (gS G) (gS G).heap) (hl0 : (gL G).stackTraces = false) (hb9 : k9 + 27 + (B.1 - jcz Z5) ≤ 601024) (hn9 : n9 + 600 + (B.2 - jsz Z5) ≤ 7293034) (K23 : Nat → Nat → Nat → Int32 → jZ → jI → jL → Prop) (hK23 : ∀ (v1 : Nat) (v2 : Nat) (v3 : Nat) (v4 : Int32) (Z : jZ) (I : jI) (L : jL), SH Z → jext Z0 Z → jle Z5 Z → jin B Z → jk Z v1 11 → jk Z v2 12 → jk Z v3 15 → K23 v1 v2 v3 v4 Z I L → jJ G 8 23 [(0, .ref b), (1, .ref v1), (2, .ref v2), (3, .ref v3), (4, .int v4)] [] Z I L (k9 + (jcz Z - jcz Z5) + 27) (n9 + (jsz Z - jsz Z5) + 600)) (v1 : Nat) (v2 : Nat) (v3 : Nat) (v4 : Int32) (Z : jZ) (I : jI) (L : jL) (hZ : SH Z) (hx : jext Z0 Z) (hc : jle Z5 Z) (hb : jin B Z) (kv1 : jk Z v1 11) (kv2 : jk Z v2 12) (kv3 : jk Z v3 15) (h : f_L_law_b547 xs Ls B K23 v1 v2 v3 v4 Z I L) : jJ G 8 547 [(0, .ref b), (1, .ref v1), (2, .ref v2), (3, .ref v3), (4, .int v4)] [] Z I L (k9 + (jcz Z - jcz Z5) + 0) (n9 + (jsz Z - jsz Z5) + 0) := by
  unfold f_L_law_b547 at h
  refine j_aload_n E dL_law_547 1 rfl ?_
  refine j_aload_n E dL_law_548 0 rfl ?_
  refine j_iload E dL_law_549 4 rfl ?_
  refine j_iconst E (v := 1) dL_law_551 (by decide) ?_
  refine j_iadd E dL_law_552 ?_
  obtain ⟨o152, h⟩ := h
  refine j_sld E hX.1 hX.2.1 hX.2.2 o152 dL_law_553 ?_
  refine j_callV E [.int (xs (v4 + (1 : Int32)).toNatClampNeg)] [] (c_X11_wears (gL G) (gD G) (gY G) v1 (xs (v4 + (1 : Int32)).toNatClampNeg) Z I L _ hZ kv1 h) (gwV W_1274 W_1275 W_1276 W_40 W_1273) rfl ⟨rfl, fy_X11_wears⟩ ⟨by decide, by decide⟩ (c := 11) rfl (by decide) kv1 rfl rfl (Nat.le_of_ble_eq_true rfl) ⟨by show k9 + (jcz Z - jcz Z5) + 0 + 0 ≤ 601024; have := hb.1; omega, by show n9 + (jsz Z - jsz Z5) + 0 + 0 ≤ 7293034; have := hb.2; omega⟩ dL_law_554 (fun v153 Z154 I155 L156 q157 => ?_)
  obtain ⟨rfl, r159, rfl, h⟩ := q157
  show jJ G 8 557 [(0, .ref b), (1, .ref v1), (2, .ref v2), (3, .ref v3), (4, .int v4)] [.int r159] Z I155 L156 (k9 + (jcz Z - jcz Z5) + 0) (n9 + (jsz Z - jsz Z5) + 0)
  refine j_pop E dL_law_557 rfl ?_
  refine j_aload_n E dL_law_558 2 rfl ?_
  refine j_aload_n E dL_law_559 0 rfl ?_
  refine j_iload E dL_law_560 4 rfl ?_
  refine j_iconst E (v := 1) dL_law_562 (by decide) ?_
  refine j_iadd E dL_law_563 ?_
  obtain ⟨o160, h⟩ := h
  refine j_sld E hX.1 hX.2.1 hX.2.2 o160 dL_law_564 ?_
  refine j_callV E [.int (xs (v4 + (1 : Int32)).toNatClampNeg)] [] (c_X12_wears (gL G) (gD G) (gY G) v2 (xs (v4 + (1 : Int32)).toNatClampNeg) Z I155 L156 _ hZ kv2 h) (gwV W_1278 W_1279 W_1280 W_695 W_1277) rfl ⟨rfl, fy_X12_wears⟩ ⟨by decide, by decide⟩ (c := 12) rfl (by decide) kv2 rfl rfl (Nat.le_of_ble_eq_true rfl) ⟨by show k9 + (jcz Z - jcz Z5) + 0 + 0 ≤ 601024; have := hb.1; omega, by show n9 + (jsz Z - jsz Z5) + 0 + 0 ≤ 7293034; have := hb.2; omega⟩ dL_law_565 (fun v161 Z162 I163 L164 q165 => ?_)
  obtain ⟨rfl, r167, rfl, h⟩ := q165
  show jJ G 8 568 [(0, .ref b), (1, .ref v1), (2, .ref v2), (3, .ref v3), (4, .int v4)] [.int r167] Z I163 L164 (k9 + (jcz Z - jcz Z5) + 0) (n9 + (jsz Z - jsz Z5) + 0)
  refine j_pop E dL_law_568 rfl ?_
  refine j_goto E 1732 dL_law_569 (by decide) ?_
  refine j_sub [0, 1, 2, 3, 4] rfl ?_
  refine j_widen (k9 := k9 + (jcz Z - jcz Z5) + 27) (n9 := n9 + (jsz Z - jsz Z5) + 600) (by show k9 + (jcz Z - jcz Z5) + 0 ≤ _; omega) (by show n9 + (jsz Z - jsz Z5) + 0 ≤ _; omega) ?_
  exact m_L_law_b1732 E hX hV hU hl0 hb9 hn9 K23 hK23 v1 v2 v3 v4 Z I163 L164 hZ hx hc hb kv1 kv2 kv3 h
set_option maxRecDepth 100000 in
def f_L_law_b572 (xs : Nat → Int32) (Ls : Nat) (B : Nat × Nat) (K23 : Nat → Nat → Nat → Int32 → jZ → jI → jL → Prop) (v1 : Nat) (v2 : Nat) (v3 : Nat) (v4 : Int32) (Z : jZ) (I : jI) (L : jL) : Prop := (vp_in (v4 + (1 : Int32)) Ls ∧ (vp_in (v4 + (2 : Int32)) Ls ∧ (vp_in (v4 + (3 : Int32)) Ls ∧ (vp_in (v4 + (4 : Int32)) Ls ∧ (f_X11_pilgrim v1 (xs (v4 + (1 : Int32)).toNatClampNeg) (xs (v4 + (2 : Int32)).toNatClampNeg) (xs (v4 + (3 : Int32)).toNatClampNeg) (xs (v4 + (4 : Int32)).toNatClampNeg) Z I L (fun r178 Z173 I174 L175 => ((jle Z Z173 ∧ jin B Z173) ∧ (vp_in (v4 + (1 : Int32)) Ls ∧ (vp_in (v4 + (2 : Int32)) Ls ∧ (vp_in (v4 + (3 : Int32)) Ls ∧ (vp_in (v4 + (4 : Int32)) Ls ∧ (f_X12_pilgrim v2 (xs (v4 + (1 : Int32)).toNatClampNeg) (xs (v4 + (2 : Int32)).toNatClampNeg) (xs (v4 + (3 : Int32)).toNatClampNeg) (xs (v4 + (4 : Int32)).toNatClampNeg) Z173 I174 L175 (fun r193 I189 L190 => f_L_law_b1732 xs Ls B K23 v1 v2 v3 v4 Z173 I189 L190)))))))))))))
set_option maxHeartbeats 4000000 in
set_option maxRecDepth 100000 in
theorem m_L_law_b572 {G : jG} {Z0 : jZ} {xs : Nat → Int32} {Ls b k9 n9 sa sb : Nat} {B : Nat × Nat} {Z5 : jZ} (E : jE G cL_law RL (Cond.arrayClass .byte :: jT) 8 (some .boolean) room_1 jRL) (hX : va_X b Ls xs (gS G) (gS G).heap ∧ b < (gS G).heap.size ∧ ¬ gA G b) (hV : jV (gA G) (gS G) (gS G).heap) (hU : jU sa sb (gA G) (gS G) (gS G).heap) (hl0 : (gL G).stackTraces = false) (hb9 : k9 + 27 + (B.1 - jcz Z5) ≤ 601024) (hn9 : n9 + 600 + (B.2 - jsz Z5) ≤ 7293034) (K23 : Nat → Nat → Nat → Int32 → jZ → jI → jL → Prop) (hK23 : ∀ (v1 : Nat) (v2 : Nat) (v3 : Nat) (v4 : Int32) (Z : jZ) (I : jI) (L : jL), SH Z → jext Z0 Z → jle Z5 Z → jin B Z → jk Z v1 11 → jk Z v2 12 → jk Z v3 15 → K23 v1 v2 v3 v4 Z I L → jJ G 8 23 [(0, .ref b), (1, .ref v1), (2, .ref v2), (3, .ref v3), (4, .int v4)] [] Z I L (k9 + (jcz Z - jcz Z5) + 27) (n9 + (jsz Z - jsz Z5) + 600)) (v1 : Nat) (v2 : Nat) (v3 : Nat) (v4 : Int32) (Z : jZ) (I : jI) (L : jL) (hZ : SH Z) (hx : jext Z0 Z) (hc : jle Z5 Z) (hb : jin B Z) (kv1 : jk Z v1 11) (kv2 : jk Z v2 12) (kv3 : jk Z v3 15) (h : f_L_law_b572 xs Ls B K23 v1 v2 v3 v4 Z I L) : jJ G 8 572 [(0, .ref b), (1, .ref v1), (2, .ref v2), (3, .ref v3), (4, .int v4)] [] Z I L (k9 + (jcz Z - jcz Z5) + 0) (n9 + (jsz Z - jsz Z5) + 0) := by
  unfold f_L_law_b572 at h
  refine j_aload_n E dL_law_572 1 rfl ?_
  refine j_aload_n E dL_law_573 0 rfl ?_
  refine j_iload E dL_law_574 4 rfl ?_
  refine j_iconst E (v := 1) dL_law_576 (by decide) ?_
  refine j_iadd E dL_law_577 ?_
  obtain ⟨o168, h⟩ := h
  refine j_sld E hX.1 hX.2.1 hX.2.2 o168 dL_law_578 ?_
  refine j_aload_n E dL_law_579 0 rfl ?_
  refine j_iload E dL_law_580 4 rfl ?_
  refine j_iconst E (v := 2) dL_law_582 (by decide) ?_
  refine j_iadd E dL_law_583 ?_
  obtain ⟨o169, h⟩ := h
  refine j_sld E hX.1 hX.2.1 hX.2.2 o169 dL_law_584 ?_
  refine j_aload_n E dL_law_585 0 rfl ?_
  refine j_iload E dL_law_586 4 rfl ?_
  refine j_iconst E (v := 3) dL_law_588 (by decide) ?_
  refine j_iadd E dL_law_589 ?_
  obtain ⟨o170, h⟩ := h
  refine j_sld E hX.1 hX.2.1 hX.2.2 o170 dL_law_590 ?_
  refine j_aload_n E dL_law_591 0 rfl ?_
  refine j_iload E dL_law_592 4 rfl ?_
  refine j_iconst E (v := 4) dL_law_594 (by decide) ?_
  refine j_iadd E dL_law_595 ?_
  obtain ⟨o171, h⟩ := h
  refine j_sld E hX.1 hX.2.1 hX.2.2 o171 dL_law_596 ?_
  refine j_callV E [.int (xs (v4 + (1 : Int32)).toNatClampNeg), .int (xs (v4 + (2 : Int32)).toNatClampNeg), .int (xs (v4 + (3 : Int32)).toNatClampNeg), .int (xs (v4 + (4 : Int32)).toNatClampNeg)] [] (c_X11_pilgrim (gL G) (gD G) (gY G) v1 (xs (v4 + (1 : Int32)).toNatClampNeg) (xs (v4 + (2 : Int32)).toNatClampNeg) (xs (v4 + (3 : Int32)).toNatClampNeg) (xs (v4 + (4 : Int32)).toNatClampNeg) Z I L _ hZ kv1 h) (gwV W_1282 W_1283 W_1284 W_40 W_1281) rfl ⟨rfl, fy_X11_pilgrim⟩ ⟨by decide, by decide⟩ (c := 11) rfl (by decide) kv1 rfl rfl (Nat.le_of_ble_eq_true rfl) ⟨by show k9 + (jcz Z - jcz Z5) + 0 + 26 ≤ 601024; have := hb.1; omega, by show n9 + (jsz Z - jsz Z5) + 0 + 585 ≤ 7293034; have := hb.2; omega⟩ dL_law_597 (fun v172 Z173 I174 L175 q176 => ?_)
  obtain ⟨yZ173, hZ173, r178, rfl, h⟩ := q176
  have hZ := hZ173
  have hx : jext Z0 Z173 := jext_trans hx yZ173
  obtain ⟨o179, h⟩ := h
  refine j_widen (k9 + (jcz Z173 - jcz Z5) + 26) (n9 + (jsz Z173 - jsz Z5) + 585) (by show k9 + (jcz Z - jcz Z5) + 0 + 26 ≤ _; have := hc.1; have := o179.1.1; omega) (by show n9 + (jsz Z - jsz Z5) + 0 + 585 ≤ _; have := hc.2; have := o179.1.2; omega) ?_
  have hc := jle_trans hc o179.1
  have hb := o179.2
  have k180 := (yZ173 _ _ kv1).1
  have k181 := (yZ173 _ _ kv2).1
  have k182 := (yZ173 _ _ kv3).1
  show jJ G 8 600 [(0, .ref b), (1, .ref v1), (2, .ref v2), (3, .ref v3), (4, .int v4)] [.int r178] Z173 I174 L175 (k9 + (jcz Z173 - jcz Z5) + 26) (n9 + (jsz Z173 - jsz Z5) + 585)
  refine j_pop E dL_law_600 rfl ?_
  refine j_aload_n E dL_law_601 2 rfl ?_
  refine j_aload_n E dL_law_602 0 rfl ?_
  refine j_iload E dL_law_603 4 rfl ?_
  refine j_iconst E (v := 1) dL_law_605 (by decide) ?_
  refine j_iadd E dL_law_606 ?_
  obtain ⟨o183, h⟩ := h
  refine j_sld E hX.1 hX.2.1 hX.2.2 o183 dL_law_607 ?_
  refine j_aload_n E dL_law_608 0 rfl ?_
  refine j_iload E dL_law_609 4 rfl ?_
  refine j_iconst E (v := 2) dL_law_611 (by decide) ?_
  refine j_iadd E dL_law_612 ?_
  obtain ⟨o184, h⟩ := h
  refine j_sld E hX.1 hX.2.1 hX.2.2 o184 dL_law_613 ?_
  refine j_aload_n E dL_law_614 0 rfl ?_
  refine j_iload E dL_law_615 4 rfl ?_
  refine j_iconst E (v := 3) dL_law_617 (by decide) ?_
  refine j_iadd E dL_law_618 ?_
  obtain ⟨o185, h⟩ := h
  refine j_sld E hX.1 hX.2.1 hX.2.2 o185 dL_law_619 ?_
  refine j_aload_n E dL_law_620 0 rfl ?_
  refine j_iload E dL_law_621 4 rfl ?_
  refine j_iconst E (v := 4) dL_law_623 (by decide) ?_
  refine j_iadd E dL_law_624 ?_
  obtain ⟨o186, h⟩ := h
  refine j_sld E hX.1 hX.2.1 hX.2.2 o186 dL_law_625 ?_
  refine j_callV E [.int (xs (v4 + (1 : Int32)).toNatClampNeg), .int (xs (v4 + (2 : Int32)).toNatClampNeg), .int (xs (v4 + (3 : Int32)).toNatClampNeg), .int (xs (v4 + (4 : Int32)).toNatClampNeg)] [] (c_X12_pilgrim (gL G) (gD G) (gY G) v2 (xs (v4 + (1 : Int32)).toNatClampNeg) (xs (v4 + (2 : Int32)).toNatClampNeg) (xs (v4 + (3 : Int32)).toNatClampNeg) (xs (v4 + (4 : Int32)).toNatClampNeg) Z173 I174 L175 _ hZ k181 h) (gwV W_1286 W_1287 W_1288 W_695 W_1285) rfl ⟨rfl, fy_X12_pilgrim⟩ ⟨by decide, by decide⟩ (c := 12) rfl (by decide) k181 rfl rfl (Nat.le_of_ble_eq_true rfl) ⟨by show k9 + (jcz Z173 - jcz Z5) + 26 + 0 ≤ 601024; have := hb.1; omega, by show n9 + (jsz Z173 - jsz Z5) + 585 + 0 ≤ 7293034; have := hb.2; omega⟩ dL_law_626 (fun v187 Z188 I189 L190 q191 => ?_)
  obtain ⟨rfl, r193, rfl, h⟩ := q191
  show jJ G 8 629 [(0, .ref b), (1, .ref v1), (2, .ref v2), (3, .ref v3), (4, .int v4)] [.int r193] Z173 I189 L190 (k9 + (jcz Z173 - jcz Z5) + 26) (n9 + (jsz Z173 - jsz Z5) + 585)
  refine j_pop E dL_law_629 rfl ?_
  refine j_goto E 1732 dL_law_630 (by decide) ?_
  refine j_sub [0, 1, 2, 3, 4] rfl ?_
  refine j_widen (k9 := k9 + (jcz Z173 - jcz Z5) + 27) (n9 := n9 + (jsz Z173 - jsz Z5) + 600) (by show k9 + (jcz Z173 - jcz Z5) + 26 ≤ _; omega) (by show n9 + (jsz Z173 - jsz Z5) + 585 ≤ _; omega) ?_
  exact m_L_law_b1732 E hX hV hU hl0 hb9 hn9 K23 hK23 v1 v2 v3 v4 Z173 I189 L190 hZ hx hc hb k180 k181 k182 h
set_option maxRecDepth 100000 in
def f_L_law_b633 (xs : Nat → Int32) (Ls : Nat) (B : Nat × Nat) (K23 : Nat → Nat → Nat → Int32 → jZ → jI → jL → Prop) (v1 : Nat) (v2 : Nat) (v3 : Nat) (v4 : Int32) (Z : jZ) (I : jI) (L : jL) : Prop := (vp_in (v4 + (1 : Int32)) Ls ∧ (vp_in (v4 + (2 : Int32)) Ls ∧ (f_X11_vow v1 (xs (v4 + (1 : Int32)).toNatClampNeg) (xs (v4 + (2 : Int32)).toNatClampNeg) Z I L (fun r202 I198 L199 => (vp_in (v4 + (1 : Int32)) Ls ∧ (vp_in (v4 + (2 : Int32)) Ls ∧ (f_X12_vow v2 (xs (v4 + (1 : Int32)).toNatClampNeg) (xs (v4 + (2 : Int32)).toNatClampNeg) Z I198 L199 (fun r211 I207 L208 => f_L_law_b1732 xs Ls B K23 v1 v2 v3 v4 Z I207 L208))))))))
set_option maxHeartbeats 4000000 in
set_option maxRecDepth 100000 in
theorem m_L_law_b633 {G : jG} {Z0 : jZ} {xs : Nat → Int32} {Ls b k9 n9 sa sb : Nat} {B : Nat × Nat} {Z5 : jZ} (E : jE G cL_law RL (Cond.arrayClass .byte :: jT) 8 (some .boolean) room_1 jRL) (hX : va_X b Ls xs (gS G) (gS G).heap ∧ b < (gS G).heap.size ∧ ¬ gA G b) (hV : jV (gA G) (gS G) (gS G).heap) (hU : jU sa sb (gA G) (gS G) (gS G).heap) (hl0 : (gL G).stackTraces = false) (hb9 : k9 + 27 + (B.1 - jcz Z5) ≤ 601024) (hn9 : n9 + 600 + (B.2 - jsz Z5) ≤ 7293034) (K23 : Nat → Nat → Nat → Int32 → jZ → jI → jL → Prop) (hK23 : ∀ (v1 : Nat) (v2 : Nat) (v3 : Nat) (v4 : Int32) (Z : jZ) (I : jI) (L : jL), SH Z → jext Z0 Z → jle Z5 Z → jin B Z → jk Z v1 11 → jk Z v2 12 → jk Z v3 15 → K23 v1 v2 v3 v4 Z I L → jJ G 8 23 [(0, .ref b), (1, .ref v1), (2, .ref v2), (3, .ref v3), (4, .int v4)] [] Z I L (k9 + (jcz Z - jcz Z5) + 27) (n9 + (jsz Z - jsz Z5) + 600)) (v1 : Nat) (v2 : Nat) (v3 : Nat) (v4 : Int32) (Z : jZ) (I : jI) (L : jL) (hZ : SH Z) (hx : jext Z0 Z) (hc : jle Z5 Z) (hb : jin B Z) (kv1 : jk Z v1 11) (kv2 : jk Z v2 12) (kv3 : jk Z v3 15) (h : f_L_law_b633 xs Ls B K23 v1 v2 v3 v4 Z I L) : jJ G 8 633 [(0, .ref b), (1, .ref v1), (2, .ref v2), (3, .ref v3), (4, .int v4)] [] Z I L (k9 + (jcz Z - jcz Z5) + 0) (n9 + (jsz Z - jsz Z5) + 0) := by
  unfold f_L_law_b633 at h
  refine j_aload_n E dL_law_633 1 rfl ?_
  refine j_aload_n E dL_law_634 0 rfl ?_
  refine j_iload E dL_law_635 4 rfl ?_
  refine j_iconst E (v := 1) dL_law_637 (by decide) ?_
  refine j_iadd E dL_law_638 ?_
  obtain ⟨o194, h⟩ := h
  refine j_sld E hX.1 hX.2.1 hX.2.2 o194 dL_law_639 ?_
  refine j_aload_n E dL_law_640 0 rfl ?_
  refine j_iload E dL_law_641 4 rfl ?_
  refine j_iconst E (v := 2) dL_law_643 (by decide) ?_
  refine j_iadd E dL_law_644 ?_
  obtain ⟨o195, h⟩ := h
  refine j_sld E hX.1 hX.2.1 hX.2.2 o195 dL_law_645 ?_
  refine j_callV E [.int (xs (v4 + (1 : Int32)).toNatClampNeg), .int (xs (v4 + (2 : Int32)).toNatClampNeg)] [] (c_X11_vow (gL G) (gD G) (gY G) v1 (xs (v4 + (1 : Int32)).toNatClampNeg) (xs (v4 + (2 : Int32)).toNatClampNeg) Z I L _ hZ kv1 h) (gwV W_1290 W_1291 W_1292 W_40 W_1289) rfl ⟨rfl, fy_X11_vow⟩ ⟨by decide, by decide⟩ (c := 11) rfl (by decide) kv1 rfl rfl (Nat.le_of_ble_eq_true rfl) ⟨by show k9 + (jcz Z - jcz Z5) + 0 + 0 ≤ 601024; have := hb.1; omega, by show n9 + (jsz Z - jsz Z5) + 0 + 0 ≤ 7293034; have := hb.2; omega⟩ dL_law_646 (fun v196 Z197 I198 L199 q200 => ?_)
  obtain ⟨rfl, r202, rfl, h⟩ := q200
  show jJ G 8 649 [(0, .ref b), (1, .ref v1), (2, .ref v2), (3, .ref v3), (4, .int v4)] [.int r202] Z I198 L199 (k9 + (jcz Z - jcz Z5) + 0) (n9 + (jsz Z - jsz Z5) + 0)
  refine j_pop E dL_law_649 rfl ?_
  refine j_aload_n E dL_law_650 2 rfl ?_
  refine j_aload_n E dL_law_651 0 rfl ?_
  refine j_iload E dL_law_652 4 rfl ?_
  refine j_iconst E (v := 1) dL_law_654 (by decide) ?_
  refine j_iadd E dL_law_655 ?_
  obtain ⟨o203, h⟩ := h
  refine j_sld E hX.1 hX.2.1 hX.2.2 o203 dL_law_656 ?_
  refine j_aload_n E dL_law_657 0 rfl ?_
  refine j_iload E dL_law_658 4 rfl ?_
  refine j_iconst E (v := 2) dL_law_660 (by decide) ?_
  refine j_iadd E dL_law_661 ?_
  obtain ⟨o204, h⟩ := h
  refine j_sld E hX.1 hX.2.1 hX.2.2 o204 dL_law_662 ?_
  refine j_callV E [.int (xs (v4 + (1 : Int32)).toNatClampNeg), .int (xs (v4 + (2 : Int32)).toNatClampNeg)] [] (c_X12_vow (gL G) (gD G) (gY G) v2 (xs (v4 + (1 : Int32)).toNatClampNeg) (xs (v4 + (2 : Int32)).toNatClampNeg) Z I198 L199 _ hZ kv2 h) (gwV W_1294 W_1295 W_1296 W_695 W_1293) rfl ⟨rfl, fy_X12_vow⟩ ⟨by decide, by decide⟩ (c := 12) rfl (by decide) kv2 rfl rfl (Nat.le_of_ble_eq_true rfl) ⟨by show k9 + (jcz Z - jcz Z5) + 0 + 0 ≤ 601024; have := hb.1; omega, by show n9 + (jsz Z - jsz Z5) + 0 + 0 ≤ 7293034; have := hb.2; omega⟩ dL_law_663 (fun v205 Z206 I207 L208 q209 => ?_)
  obtain ⟨rfl, r211, rfl, h⟩ := q209
  show jJ G 8 666 [(0, .ref b), (1, .ref v1), (2, .ref v2), (3, .ref v3), (4, .int v4)] [.int r211] Z I207 L208 (k9 + (jcz Z - jcz Z5) + 0) (n9 + (jsz Z - jsz Z5) + 0)
  refine j_pop E dL_law_666 rfl ?_
  refine j_goto E 1732 dL_law_667 (by decide) ?_
  refine j_sub [0, 1, 2, 3, 4] rfl ?_
  refine j_widen (k9 := k9 + (jcz Z - jcz Z5) + 27) (n9 := n9 + (jsz Z - jsz Z5) + 600) (by show k9 + (jcz Z - jcz Z5) + 0 ≤ _; omega) (by show n9 + (jsz Z - jsz Z5) + 0 ≤ _; omega) ?_
  exact m_L_law_b1732 E hX hV hU hl0 hb9 hn9 K23 hK23 v1 v2 v3 v4 Z I207 L208 hZ hx hc hb kv1 kv2 kv3 h
set_option maxRecDepth 100000 in
def f_L_law_b670 (xs : Nat → Int32) (Ls : Nat) (B : Nat × Nat) (K23 : Nat → Nat → Nat → Int32 → jZ → jI → jL → Prop) (v1 : Nat) (v2 : Nat) (v3 : Nat) (v4 : Int32) (Z : jZ) (I : jI) (L : jL) : Prop := (vp_in (v4 + (1 : Int32)) Ls ∧ (vp_in (v4 + (2 : Int32)) Ls ∧ (f_L_of v1 (xs (v4 + (1 : Int32)).toNatClampNeg) (xs (v4 + (2 : Int32)).toNatClampNeg) v3 Z I L (fun r220 I216 L217 => (vp_in (v4 + (1 : Int32)) Ls ∧ (vp_in (v4 + (2 : Int32)) Ls ∧ (f_X12_of v2 (xs (v4 + (1 : Int32)).toNatClampNeg) (xs (v4 + (2 : Int32)).toNatClampNeg) Z I216 L217 (fun r229 I225 L226 => f_L_law_b1732 xs Ls B K23 v1 v2 v3 v4 Z I225 L226))))))))
set_option maxHeartbeats 4000000 in
set_option maxRecDepth 100000 in
theorem m_L_law_b670 {G : jG} {Z0 : jZ} {xs : Nat → Int32} {Ls b k9 n9 sa sb : Nat} {B : Nat × Nat} {Z5 : jZ} (E : jE G cL_law RL (Cond.arrayClass .byte :: jT) 8 (some .boolean) room_1 jRL) (hX : va_X b Ls xs (gS G) (gS G).heap ∧ b < (gS G).heap.size ∧ ¬ gA G b) (hV : jV (gA G) (gS G) (gS G).heap) (hU : jU sa sb (gA G) (gS G) (gS G).heap) (hl0 : (gL G).stackTraces = false) (hb9 : k9 + 27 + (B.1 - jcz Z5) ≤ 601024) (hn9 : n9 + 600 + (B.2 - jsz Z5) ≤ 7293034) (K23 : Nat → Nat → Nat → Int32 → jZ → jI → jL → Prop) (hK23 : ∀ (v1 : Nat) (v2 : Nat) (v3 : Nat) (v4 : Int32) (Z : jZ) (I : jI) (L : jL), SH Z → jext Z0 Z → jle Z5 Z → jin B Z → jk Z v1 11 → jk Z v2 12 → jk Z v3 15 → K23 v1 v2 v3 v4 Z I L → jJ G 8 23 [(0, .ref b), (1, .ref v1), (2, .ref v2), (3, .ref v3), (4, .int v4)] [] Z I L (k9 + (jcz Z - jcz Z5) + 27) (n9 + (jsz Z - jsz Z5) + 600)) (v1 : Nat) (v2 : Nat) (v3 : Nat) (v4 : Int32) (Z : jZ) (I : jI) (L : jL) (hZ : SH Z) (hx : jext Z0 Z) (hc : jle Z5 Z) (hb : jin B Z) (kv1 : jk Z v1 11) (kv2 : jk Z v2 12) (kv3 : jk Z v3 15) (h : f_L_law_b670 xs Ls B K23 v1 v2 v3 v4 Z I L) : jJ G 8 670 [(0, .ref b), (1, .ref v1), (2, .ref v2), (3, .ref v3), (4, .int v4)] [] Z I L (k9 + (jcz Z - jcz Z5) + 0) (n9 + (jsz Z - jsz Z5) + 0) := by
  unfold f_L_law_b670 at h
  refine j_aload_n E dL_law_670 1 rfl ?_
  refine j_aload_n E dL_law_671 0 rfl ?_
  refine j_iload E dL_law_672 4 rfl ?_
  refine j_iconst E (v := 1) dL_law_674 (by decide) ?_
  refine j_iadd E dL_law_675 ?_
  obtain ⟨o212, h⟩ := h
  refine j_sld E hX.1 hX.2.1 hX.2.2 o212 dL_law_676 ?_
  refine j_aload_n E dL_law_677 0 rfl ?_
  refine j_iload E dL_law_678 4 rfl ?_
  refine j_iconst E (v := 2) dL_law_680 (by decide) ?_
  refine j_iadd E dL_law_681 ?_
  obtain ⟨o213, h⟩ := h
  refine j_sld E hX.1 hX.2.1 hX.2.2 o213 dL_law_682 ?_
  refine j_aload_n E dL_law_683 3 rfl ?_
  refine j_callSH E hV [.ref v1, .int (xs (v4 + (1 : Int32)).toNatClampNeg), .int (xs (v4 + (2 : Int32)).toNatClampNeg), .ref v3] [] (c_L_of (gL G) hl0 (gD G) (gY G) v1 (xs (v4 + (1 : Int32)).toNatClampNeg) (xs (v4 + (2 : Int32)).toNatClampNeg) v3 Z I L _ hZ kv1 kv3 h) (gwS W_1297 W_1298 W_1241 W_1299) rfl fy_L_of ⟨by decide, by decide⟩ rfl rfl (Nat.le_of_ble_eq_true rfl) ⟨by show k9 + (jcz Z - jcz Z5) + 0 + 1 ≤ 601024; have := hb.1; omega, by show n9 + (jsz Z - jsz Z5) + 0 + 6 ≤ 7293034; have := hb.2; omega⟩ dL_law_684 (fun v214 Z215 I216 L217 q218 => ?_)
  obtain ⟨rfl, r220, rfl, h⟩ := q218
  show jJ G 8 687 [(0, .ref b), (1, .ref v1), (2, .ref v2), (3, .ref v3), (4, .int v4)] [.int r220] Z I216 L217 (k9 + (jcz Z - jcz Z5) + 1) (n9 + (jsz Z - jsz Z5) + 6)
  refine j_istore E 5 [(5, .int r220), (0, .ref b), (1, .ref v1), (2, .ref v2), (3, .ref v3), (4, .int v4)] dL_law_687 (by decide) rfl ?_
  refine j_aload_n E dL_law_689 3 rfl ?_
  refine j_aload_n E dL_law_690 1 rfl ?_
  refine j_iload E dL_law_691 5 rfl ?_
  refine j_iconst E (v := 1) dL_law_693 (by decide) ?_
  refine j_iadd E dL_law_694 ?_
  obtain ⟨o221, h⟩ := h
  refine j_sld E hX.1 hX.2.1 hX.2.2 o221 dL_law_695 ?_
  refine j_aload_n E dL_law_696 1 rfl ?_
  refine j_iload E dL_law_697 5 rfl ?_
  refine j_iconst E (v := 2) dL_law_699 (by decide) ?_
  refine j_iadd E dL_law_700 ?_
  obtain ⟨o222, h⟩ := h
  refine j_sld E hX.1 hX.2.1 hX.2.2 o222 dL_law_701 ?_
  refine j_callV E [.int (xs (v4 + (1 : Int32)).toNatClampNeg), .int (xs (v4 + (2 : Int32)).toNatClampNeg)] [] (c_X12_of (gL G) (gD G) (gY G) v2 (xs (v4 + (1 : Int32)).toNatClampNeg) (xs (v4 + (2 : Int32)).toNatClampNeg) Z I216 L217 _ hZ kv2 h) (gwV W_1301 W_1302 W_1303 W_695 W_1300) rfl ⟨rfl, fy_X12_of⟩ ⟨by decide, by decide⟩ (c := 12) rfl (by decide) kv2 rfl rfl (Nat.le_of_ble_eq_true rfl) ⟨by show k9 + (jcz Z - jcz Z5) + 1 + 0 ≤ 601024; have := hb.1; omega, by show n9 + (jsz Z - jsz Z5) + 6 + 0 ≤ 7293034; have := hb.2; omega⟩ dL_law_702 (fun v223 Z224 I225 L226 q227 => ?_)
  obtain ⟨rfl, r229, rfl, h⟩ := q227
  show jJ G 8 705 [(5, .int r220), (0, .ref b), (1, .ref v1), (2, .ref v2), (3, .ref v3), (4, .int v4)] [.int r229] Z I225 L226 (k9 + (jcz Z - jcz Z5) + 1) (n9 + (jsz Z - jsz Z5) + 6)
  refine j_istore E 6 [(6, .int r229), (5, .int r220), (0, .ref b), (1, .ref v1), (2, .ref v2), (3, .ref v3), (4, .int v4)] dL_law_705 (by decide) rfl ?_
  refine j_goto E 1732 dL_law_707 (by decide) ?_
  refine j_sub [2, 3, 4, 5, 6] rfl ?_
  refine j_widen (k9 := k9 + (jcz Z - jcz Z5) + 27) (n9 := n9 + (jsz Z - jsz Z5) + 600) (by show k9 + (jcz Z - jcz Z5) + 1 ≤ _; omega) (by show n9 + (jsz Z - jsz Z5) + 6 ≤ _; omega) ?_
  exact m_L_law_b1732 E hX hV hU hl0 hb9 hn9 K23 hK23 v1 v2 v3 v4 Z I225 L226 hZ hx hc hb kv1 kv2 kv3 h
set_option maxRecDepth 100000 in
def f_L_law_b710 (xs : Nat → Int32) (Ls : Nat) (B : Nat × Nat) (K23 : Nat → Nat → Nat → Int32 → jZ → jI → jL → Prop) (v1 : Nat) (v2 : Nat) (v3 : Nat) (v4 : Int32) (Z : jZ) (I : jI) (L : jL) : Prop := (vp_in (v4 + (1 : Int32)) Ls ∧ (vp_in (v4 + (2 : Int32)) Ls ∧ (f_X11_costs v1 (xs (v4 + (1 : Int32)).toNatClampNeg) (xs (v4 + (2 : Int32)).toNatClampNeg) Z I L (fun r238 I234 L235 => (vp_in (v4 + (1 : Int32)) Ls ∧ (vp_in (v4 + (2 : Int32)) Ls ∧ (f_X12_costs B v2 (xs (v4 + (1 : Int32)).toNatClampNeg) (xs (v4 + (2 : Int32)).toNatClampNeg) Z I234 L235 (fun r247 Z242 I243 L244 => f_L_law_b1732 xs Ls B K23 v1 v2 v3 v4 Z242 I243 L244))))))))
set_option maxHeartbeats 4000000 in
set_option maxRecDepth 100000 in
theorem m_L_law_b710 {G : jG} {Z0 : jZ} {xs : Nat → Int32} {Ls b k9 n9 sa sb : Nat} {B : Nat × Nat} {Z5 : jZ} (E : jE G cL_law RL (Cond.arrayClass .byte :: jT) 8 (some .boolean) room_1 jRL) (hX : va_X b Ls xs (gS G) (gS G).heap ∧ b < (gS G).heap.size ∧ ¬ gA G b) (hV : jV (gA G) (gS G) (gS G).heap) (hU : jU sa sb (gA G) (gS G) (gS G).heap) (hl0 : (gL G).stackTraces = false) (hb9 : k9 + 27 + (B.1 - jcz Z5) ≤ 601024) (hn9 : n9 + 600 + (B.2 - jsz Z5) ≤ 7293034) (K23 : Nat → Nat → Nat → Int32 → jZ → jI → jL → Prop) (hK23 : ∀ (v1 : Nat) (v2 : Nat) (v3 : Nat) (v4 : Int32) (Z : jZ) (I : jI) (L : jL), SH Z → jext Z0 Z → jle Z5 Z → jin B Z → jk Z v1 11 → jk Z v2 12 → jk Z v3 15 → K23 v1 v2 v3 v4 Z I L → jJ G 8 23 [(0, .ref b), (1, .ref v1), (2, .ref v2), (3, .ref v3), (4, .int v4)] [] Z I L (k9 + (jcz Z - jcz Z5) + 27) (n9 + (jsz Z - jsz Z5) + 600)) (v1 : Nat) (v2 : Nat) (v3 : Nat) (v4 : Int32) (Z : jZ) (I : jI) (L : jL) (hZ : SH Z) (hx : jext Z0 Z) (hc : jle Z5 Z) (hb : jin B Z) (kv1 : jk Z v1 11) (kv2 : jk Z v2 12) (kv3 : jk Z v3 15) (h : f_L_law_b710 xs Ls B K23 v1 v2 v3 v4 Z I L) : jJ G 8 710 [(0, .ref b), (1, .ref v1), (2, .ref v2), (3, .ref v3), (4, .int v4)] [] Z I L (k9 + (jcz Z - jcz Z5) + 0) (n9 + (jsz Z - jsz Z5) + 0) := by
  unfold f_L_law_b710 at h
  refine j_aload_n E dL_law_710 1 rfl ?_
  refine j_aload_n E dL_law_711 0 rfl ?_
  refine j_iload E dL_law_712 4 rfl ?_
  refine j_iconst E (v := 1) dL_law_714 (by decide) ?_
  refine j_iadd E dL_law_715 ?_
  obtain ⟨o230, h⟩ := h
  refine j_sld E hX.1 hX.2.1 hX.2.2 o230 dL_law_716 ?_
  refine j_aload_n E dL_law_717 0 rfl ?_
  refine j_iload E dL_law_718 4 rfl ?_
  refine j_iconst E (v := 2) dL_law_720 (by decide) ?_
  refine j_iadd E dL_law_721 ?_
  obtain ⟨o231, h⟩ := h
  refine j_sld E hX.1 hX.2.1 hX.2.2 o231 dL_law_722 ?_
  refine j_callV E [.int (xs (v4 + (1 : Int32)).toNatClampNeg), .int (xs (v4 + (2 : Int32)).toNatClampNeg)] [] (c_X11_costs (gL G) (gD G) (gY G) v1 (xs (v4 + (1 : Int32)).toNatClampNeg) (xs (v4 + (2 : Int32)).toNatClampNeg) Z I L _ hZ kv1 h) (gwV W_1305 W_1306 W_1307 W_40 W_1304) rfl ⟨rfl, fy_X11_costs⟩ ⟨by decide, by decide⟩ (c := 11) rfl (by decide) kv1 rfl rfl (Nat.le_of_ble_eq_true rfl) ⟨by show k9 + (jcz Z - jcz Z5) + 0 + 0 ≤ 601024; have := hb.1; omega, by show n9 + (jsz Z - jsz Z5) + 0 + 0 ≤ 7293034; have := hb.2; omega⟩ dL_law_723 (fun v232 Z233 I234 L235 q236 => ?_)
  obtain ⟨rfl, r238, rfl, h⟩ := q236
  show jJ G 8 726 [(0, .ref b), (1, .ref v1), (2, .ref v2), (3, .ref v3), (4, .int v4)] [.int r238] Z I234 L235 (k9 + (jcz Z - jcz Z5) + 0) (n9 + (jsz Z - jsz Z5) + 0)
  refine j_pop E dL_law_726 rfl ?_
  refine j_aload_n E dL_law_727 2 rfl ?_
  refine j_aload_n E dL_law_728 0 rfl ?_
  refine j_iload E dL_law_729 4 rfl ?_
  refine j_iconst E (v := 1) dL_law_731 (by decide) ?_
  refine j_iadd E dL_law_732 ?_
  obtain ⟨o239, h⟩ := h
  refine j_sld E hX.1 hX.2.1 hX.2.2 o239 dL_law_733 ?_
  refine j_aload_n E dL_law_734 0 rfl ?_
  refine j_iload E dL_law_735 4 rfl ?_
  refine j_iconst E (v := 2) dL_law_737 (by decide) ?_
  refine j_iadd E dL_law_738 ?_
  obtain ⟨o240, h⟩ := h
  refine j_sld E hX.1 hX.2.1 hX.2.2 o240 dL_law_739 ?_
  refine ju_callV E [.int (xs (v4 + (1 : Int32)).toNatClampNeg), .int (xs (v4 + (2 : Int32)).toNatClampNeg)] [] (c_X12_costs (gL G) (gD G) (gY G) B v2 (xs (v4 + (1 : Int32)).toNatClampNeg) (xs (v4 + (2 : Int32)).toNatClampNeg) Z I234 L235 _ hZ hb kv2 h) (gwV W_1309 W_1310 W_1311 W_695 W_1308) rfl ⟨rfl, fy_X12_costs⟩ ⟨by decide, by decide⟩ (c := 12) rfl (by decide) kv2 rfl rfl (Nat.le_of_ble_eq_true rfl) ⟨by show k9 + (jcz Z - jcz Z5) + 0 + (B.1 - jcz Z) ≤ 601024; have := hb.1; have := hc.1; omega, by show n9 + (jsz Z - jsz Z5) + 0 + (B.2 - jsz Z) ≤ 7293034; have := hb.2; have := hc.2; omega⟩ dL_law_740 (fun v241 Z242 I243 L244 q245 j246 => ?_)
  refine j_kn (k' := k9 + (jcz Z242 - jcz Z5) + 0) (n' := n9 + (jsz Z242 - jsz Z5) + 0) (by have := hc.1; have := j246.1; omega) (by have := hc.2; have := j246.2; omega) ?_
  have hc := jle_trans hc j246
  obtain ⟨yZ242, hZ242, hbZ242, r247, rfl, h⟩ := q245
  have hZ := hZ242
  have hx : jext Z0 Z242 := jext_trans hx yZ242
  have hb := hbZ242
  have k248 := (yZ242 _ _ kv1).1
  have k249 := (yZ242 _ _ kv2).1
  have k250 := (yZ242 _ _ kv3).1
  show jJ G 8 743 [(0, .ref b), (1, .ref v1), (2, .ref v2), (3, .ref v3), (4, .int v4)] [.int r247] Z242 I243 L244 (k9 + (jcz Z242 - jcz Z5) + 0) (n9 + (jsz Z242 - jsz Z5) + 0)
  refine j_pop E dL_law_743 rfl ?_
  refine j_goto E 1732 dL_law_744 (by decide) ?_
  refine j_sub [0, 1, 2, 3, 4] rfl ?_
  refine j_widen (k9 := k9 + (jcz Z242 - jcz Z5) + 27) (n9 := n9 + (jsz Z242 - jsz Z5) + 600) (by show k9 + (jcz Z242 - jcz Z5) + 0 ≤ _; omega) (by show n9 + (jsz Z242 - jsz Z5) + 0 ≤ _; omega) ?_
  exact m_L_law_b1732 E hX hV hU hl0 hb9 hn9 K23 hK23 v1 v2 v3 v4 Z242 I243 L244 hZ hx hc hb k248 k249 k250 h
set_option maxRecDepth 100000 in
def f_L_law_b747 (xs : Nat → Int32) (Ls : Nat) (B : Nat × Nat) (K23 : Nat → Nat → Nat → Int32 → jZ → jI → jL → Prop) (v1 : Nat) (v2 : Nat) (v3 : Nat) (v4 : Int32) (Z : jZ) (I : jI) (L : jL) : Prop := (vp_in (v4 + (1 : Int32)) Ls ∧ (vp_in (v4 + (2 : Int32)) Ls ∧ (f_X11_tread v1 (xs (v4 + (1 : Int32)).toNatClampNeg) (xs (v4 + (2 : Int32)).toNatClampNeg) Z I L (fun r259 I255 L256 => (vp_in (v4 + (1 : Int32)) Ls ∧ (vp_in (v4 + (2 : Int32)) Ls ∧ (f_X12_tread B v2 (xs (v4 + (1 : Int32)).toNatClampNeg) (xs (v4 + (2 : Int32)).toNatClampNeg) Z I255 L256 (fun r268 Z263 I264 L265 => f_L_law_b1732 xs Ls B K23 v1 v2 v3 v4 Z263 I264 L265))))))))
set_option maxHeartbeats 4000000 in
set_option maxRecDepth 100000 in
theorem m_L_law_b747 {G : jG} {Z0 : jZ} {xs : Nat → Int32} {Ls b k9 n9 sa sb : Nat} {B : Nat × Nat} {Z5 : jZ} (E : jE G cL_law RL (Cond.arrayClass .byte :: jT) 8 (some .boolean) room_1 jRL) (hX : va_X b Ls xs (gS G) (gS G).heap ∧ b < (gS G).heap.size ∧ ¬ gA G b) (hV : jV (gA G) (gS G) (gS G).heap) (hU : jU sa sb (gA G) (gS G) (gS G).heap) (hl0 : (gL G).stackTraces = false) (hb9 : k9 + 27 + (B.1 - jcz Z5) ≤ 601024) (hn9 : n9 + 600 + (B.2 - jsz Z5) ≤ 7293034) (K23 : Nat → Nat → Nat → Int32 → jZ → jI → jL → Prop) (hK23 : ∀ (v1 : Nat) (v2 : Nat) (v3 : Nat) (v4 : Int32) (Z : jZ) (I : jI) (L : jL), SH Z → jext Z0 Z → jle Z5 Z → jin B Z → jk Z v1 11 → jk Z v2 12 → jk Z v3 15 → K23 v1 v2 v3 v4 Z I L → jJ G 8 23 [(0, .ref b), (1, .ref v1), (2, .ref v2), (3, .ref v3), (4, .int v4)] [] Z I L (k9 + (jcz Z - jcz Z5) + 27) (n9 + (jsz Z - jsz Z5) + 600)) (v1 : Nat) (v2 : Nat) (v3 : Nat) (v4 : Int32) (Z : jZ) (I : jI) (L : jL) (hZ : SH Z) (hx : jext Z0 Z) (hc : jle Z5 Z) (hb : jin B Z) (kv1 : jk Z v1 11) (kv2 : jk Z v2 12) (kv3 : jk Z v3 15) (h : f_L_law_b747 xs Ls B K23 v1 v2 v3 v4 Z I L) : jJ G 8 747 [(0, .ref b), (1, .ref v1), (2, .ref v2), (3, .ref v3), (4, .int v4)] [] Z I L (k9 + (jcz Z - jcz Z5) + 0) (n9 + (jsz Z - jsz Z5) + 0) := by
  unfold f_L_law_b747 at h
  refine j_aload_n E dL_law_747 1 rfl ?_
  refine j_aload_n E dL_law_748 0 rfl ?_
  refine j_iload E dL_law_749 4 rfl ?_
  refine j_iconst E (v := 1) dL_law_751 (by decide) ?_
  refine j_iadd E dL_law_752 ?_
  obtain ⟨o251, h⟩ := h
  refine j_sld E hX.1 hX.2.1 hX.2.2 o251 dL_law_753 ?_
  refine j_aload_n E dL_law_754 0 rfl ?_
  refine j_iload E dL_law_755 4 rfl ?_
  refine j_iconst E (v := 2) dL_law_757 (by decide) ?_
  refine j_iadd E dL_law_758 ?_
  obtain ⟨o252, h⟩ := h
  refine j_sld E hX.1 hX.2.1 hX.2.2 o252 dL_law_759 ?_
  refine j_callV E [.int (xs (v4 + (1 : Int32)).toNatClampNeg), .int (xs (v4 + (2 : Int32)).toNatClampNeg)] [] (c_X11_tread (gL G) (gD G) (gY G) v1 (xs (v4 + (1 : Int32)).toNatClampNeg) (xs (v4 + (2 : Int32)).toNatClampNeg) Z I L _ hZ kv1 h) (gwV W_1313 W_1314 W_1315 W_40 W_1312) rfl ⟨rfl, fy_X11_tread⟩ ⟨by decide, by decide⟩ (c := 11) rfl (by decide) kv1 rfl rfl (Nat.le_of_ble_eq_true rfl) ⟨by show k9 + (jcz Z - jcz Z5) + 0 + 0 ≤ 601024; have := hb.1; omega, by show n9 + (jsz Z - jsz Z5) + 0 + 0 ≤ 7293034; have := hb.2; omega⟩ dL_law_760 (fun v253 Z254 I255 L256 q257 => ?_)
  obtain ⟨rfl, r259, rfl, h⟩ := q257
  show jJ G 8 763 [(0, .ref b), (1, .ref v1), (2, .ref v2), (3, .ref v3), (4, .int v4)] [.int r259] Z I255 L256 (k9 + (jcz Z - jcz Z5) + 0) (n9 + (jsz Z - jsz Z5) + 0)
  refine j_pop E dL_law_763 rfl ?_
  refine j_aload_n E dL_law_764 2 rfl ?_
  refine j_aload_n E dL_law_765 0 rfl ?_
  refine j_iload E dL_law_766 4 rfl ?_
  refine j_iconst E (v := 1) dL_law_768 (by decide) ?_
  refine j_iadd E dL_law_769 ?_
  obtain ⟨o260, h⟩ := h
  refine j_sld E hX.1 hX.2.1 hX.2.2 o260 dL_law_770 ?_
  refine j_aload_n E dL_law_771 0 rfl ?_
  refine j_iload E dL_law_772 4 rfl ?_
  refine j_iconst E (v := 2) dL_law_774 (by decide) ?_
  refine j_iadd E dL_law_775 ?_
  obtain ⟨o261, h⟩ := h
  refine j_sld E hX.1 hX.2.1 hX.2.2 o261 dL_law_776 ?_
  refine ju_callV E [.int (xs (v4 + (1 : Int32)).toNatClampNeg), .int (xs (v4 + (2 : Int32)).toNatClampNeg)] [] (c_X12_tread (gL G) (gD G) (gY G) B v2 (xs (v4 + (1 : Int32)).toNatClampNeg) (xs (v4 + (2 : Int32)).toNatClampNeg) Z I255 L256 _ hZ hb kv2 h) (gwV W_1317 W_1318 W_1319 W_695 W_1316) rfl ⟨rfl, fy_X12_tread⟩ ⟨by decide, by decide⟩ (c := 12) rfl (by decide) kv2 rfl rfl (Nat.le_of_ble_eq_true rfl) ⟨by show k9 + (jcz Z - jcz Z5) + 0 + (B.1 - jcz Z) ≤ 601024; have := hb.1; have := hc.1; omega, by show n9 + (jsz Z - jsz Z5) + 0 + (B.2 - jsz Z) ≤ 7293034; have := hb.2; have := hc.2; omega⟩ dL_law_777 (fun v262 Z263 I264 L265 q266 j267 => ?_)
  refine j_kn (k' := k9 + (jcz Z263 - jcz Z5) + 0) (n' := n9 + (jsz Z263 - jsz Z5) + 0) (by have := hc.1; have := j267.1; omega) (by have := hc.2; have := j267.2; omega) ?_
  have hc := jle_trans hc j267
  obtain ⟨yZ263, hZ263, hbZ263, r268, rfl, h⟩ := q266
  have hZ := hZ263
  have hx : jext Z0 Z263 := jext_trans hx yZ263
  have hb := hbZ263
  have k269 := (yZ263 _ _ kv1).1
  have k270 := (yZ263 _ _ kv2).1
  have k271 := (yZ263 _ _ kv3).1
  show jJ G 8 780 [(0, .ref b), (1, .ref v1), (2, .ref v2), (3, .ref v3), (4, .int v4)] [.int r268] Z263 I264 L265 (k9 + (jcz Z263 - jcz Z5) + 0) (n9 + (jsz Z263 - jsz Z5) + 0)
  refine j_pop E dL_law_780 rfl ?_
  refine j_goto E 1732 dL_law_781 (by decide) ?_
  refine j_sub [0, 1, 2, 3, 4] rfl ?_
  refine j_widen (k9 := k9 + (jcz Z263 - jcz Z5) + 27) (n9 := n9 + (jsz Z263 - jsz Z5) + 600) (by show k9 + (jcz Z263 - jcz Z5) + 0 ≤ _; omega) (by show n9 + (jsz Z263 - jsz Z5) + 0 ≤ _; omega) ?_
  exact m_L_law_b1732 E hX hV hU hl0 hb9 hn9 K23 hK23 v1 v2 v3 v4 Z263 I264 L265 hZ hx hc hb k269 k270 k271 h
set_option maxRecDepth 100000 in
def f_L_law_b784 (xs : Nat → Int32) (Ls : Nat) (B : Nat × Nat) (K23 : Nat → Nat → Nat → Int32 → jZ → jI → jL → Prop) (v1 : Nat) (v2 : Nat) (v3 : Nat) (v4 : Int32) (Z : jZ) (I : jI) (L : jL) : Prop := (vp_in (v4 + (1 : Int32)) Ls ∧ (vp_in (v4 + (2 : Int32)) Ls ∧ (f_X11_rests v1 (xs (v4 + (1 : Int32)).toNatClampNeg) (xs (v4 + (2 : Int32)).toNatClampNeg) Z I L (fun r280 I276 L277 => (vp_in (v4 + (1 : Int32)) Ls ∧ (vp_in (v4 + (2 : Int32)) Ls ∧ (f_X12_rests B v2 (xs (v4 + (1 : Int32)).toNatClampNeg) (xs (v4 + (2 : Int32)).toNatClampNeg) Z I276 L277 (fun r289 Z284 I285 L286 => f_L_law_b1732 xs Ls B K23 v1 v2 v3 v4 Z284 I285 L286))))))))
set_option maxHeartbeats 4000000 in
set_option maxRecDepth 100000 in
theorem m_L_law_b784 {G : jG} {Z0 : jZ} {xs : Nat → Int32} {Ls b k9 n9 sa sb : Nat} {B : Nat × Nat} {Z5 : jZ} (E : jE G cL_law RL (Cond.arrayClass .byte :: jT) 8 (some .boolean) room_1 jRL) (hX : va_X b Ls xs (gS G) (gS G).heap ∧ b < (gS G).heap.size ∧ ¬ gA G b) (hV : jV (gA G) (gS G) (gS G).heap) (hU : jU sa sb (gA G) (gS G) (gS G).heap) (hl0 : (gL G).stackTraces = false) (hb9 : k9 + 27 + (B.1 - jcz Z5) ≤ 601024) (hn9 : n9 + 600 + (B.2 - jsz Z5) ≤ 7293034) (K23 : Nat → Nat → Nat → Int32 → jZ → jI → jL → Prop) (hK23 : ∀ (v1 : Nat) (v2 : Nat) (v3 : Nat) (v4 : Int32) (Z : jZ) (I : jI) (L : jL), SH Z → jext Z0 Z → jle Z5 Z → jin B Z → jk Z v1 11 → jk Z v2 12 → jk Z v3 15 → K23 v1 v2 v3 v4 Z I L → jJ G 8 23 [(0, .ref b), (1, .ref v1), (2, .ref v2), (3, .ref v3), (4, .int v4)] [] Z I L (k9 + (jcz Z - jcz Z5) + 27) (n9 + (jsz Z - jsz Z5) + 600)) (v1 : Nat) (v2 : Nat) (v3 : Nat) (v4 : Int32) (Z : jZ) (I : jI) (L : jL) (hZ : SH Z) (hx : jext Z0 Z) (hc : jle Z5 Z) (hb : jin B Z) (kv1 : jk Z v1 11) (kv2 : jk Z v2 12) (kv3 : jk Z v3 15) (h : f_L_law_b784 xs Ls B K23 v1 v2 v3 v4 Z I L) : jJ G 8 784 [(0, .ref b), (1, .ref v1), (2, .ref v2), (3, .ref v3), (4, .int v4)] [] Z I L (k9 + (jcz Z - jcz Z5) + 0) (n9 + (jsz Z - jsz Z5) + 0) := by
  unfold f_L_law_b784 at h
  refine j_aload_n E dL_law_784 1 rfl ?_
  refine j_aload_n E dL_law_785 0 rfl ?_
  refine j_iload E dL_law_786 4 rfl ?_
  refine j_iconst E (v := 1) dL_law_788 (by decide) ?_
  refine j_iadd E dL_law_789 ?_
  obtain ⟨o272, h⟩ := h
  refine j_sld E hX.1 hX.2.1 hX.2.2 o272 dL_law_790 ?_
  refine j_aload_n E dL_law_791 0 rfl ?_
  refine j_iload E dL_law_792 4 rfl ?_
  refine j_iconst E (v := 2) dL_law_794 (by decide) ?_
  refine j_iadd E dL_law_795 ?_
  obtain ⟨o273, h⟩ := h
  refine j_sld E hX.1 hX.2.1 hX.2.2 o273 dL_law_796 ?_
  refine j_callV E [.int (xs (v4 + (1 : Int32)).toNatClampNeg), .int (xs (v4 + (2 : Int32)).toNatClampNeg)] [] (c_X11_rests (gL G) (gD G) (gY G) v1 (xs (v4 + (1 : Int32)).toNatClampNeg) (xs (v4 + (2 : Int32)).toNatClampNeg) Z I L _ hZ kv1 h) (gwV W_1321 W_1322 W_1323 W_40 W_1320) rfl ⟨rfl, fy_X11_rests⟩ ⟨by decide, by decide⟩ (c := 11) rfl (by decide) kv1 rfl rfl (Nat.le_of_ble_eq_true rfl) ⟨by show k9 + (jcz Z - jcz Z5) + 0 + 0 ≤ 601024; have := hb.1; omega, by show n9 + (jsz Z - jsz Z5) + 0 + 0 ≤ 7293034; have := hb.2; omega⟩ dL_law_797 (fun v274 Z275 I276 L277 q278 => ?_)
  obtain ⟨rfl, r280, rfl, h⟩ := q278
  show jJ G 8 800 [(0, .ref b), (1, .ref v1), (2, .ref v2), (3, .ref v3), (4, .int v4)] [.int r280] Z I276 L277 (k9 + (jcz Z - jcz Z5) + 0) (n9 + (jsz Z - jsz Z5) + 0)
  refine j_pop E dL_law_800 rfl ?_
  refine j_aload_n E dL_law_801 2 rfl ?_
  refine j_aload_n E dL_law_802 0 rfl ?_
  refine j_iload E dL_law_803 4 rfl ?_
  refine j_iconst E (v := 1) dL_law_805 (by decide) ?_
  refine j_iadd E dL_law_806 ?_
  obtain ⟨o281, h⟩ := h
  refine j_sld E hX.1 hX.2.1 hX.2.2 o281 dL_law_807 ?_
  refine j_aload_n E dL_law_808 0 rfl ?_
  refine j_iload E dL_law_809 4 rfl ?_
  refine j_iconst E (v := 2) dL_law_811 (by decide) ?_
  refine j_iadd E dL_law_812 ?_
  obtain ⟨o282, h⟩ := h
  refine j_sld E hX.1 hX.2.1 hX.2.2 o282 dL_law_813 ?_
  refine ju_callV E [.int (xs (v4 + (1 : Int32)).toNatClampNeg), .int (xs (v4 + (2 : Int32)).toNatClampNeg)] [] (c_X12_rests (gL G) (gD G) (gY G) B v2 (xs (v4 + (1 : Int32)).toNatClampNeg) (xs (v4 + (2 : Int32)).toNatClampNeg) Z I276 L277 _ hZ hb kv2 h) (gwV W_1325 W_1326 W_1327 W_695 W_1324) rfl ⟨rfl, fy_X12_rests⟩ ⟨by decide, by decide⟩ (c := 12) rfl (by decide) kv2 rfl rfl (Nat.le_of_ble_eq_true rfl) ⟨by show k9 + (jcz Z - jcz Z5) + 0 + (B.1 - jcz Z) ≤ 601024; have := hb.1; have := hc.1; omega, by show n9 + (jsz Z - jsz Z5) + 0 + (B.2 - jsz Z) ≤ 7293034; have := hb.2; have := hc.2; omega⟩ dL_law_814 (fun v283 Z284 I285 L286 q287 j288 => ?_)
  refine j_kn (k' := k9 + (jcz Z284 - jcz Z5) + 0) (n' := n9 + (jsz Z284 - jsz Z5) + 0) (by have := hc.1; have := j288.1; omega) (by have := hc.2; have := j288.2; omega) ?_
  have hc := jle_trans hc j288
  obtain ⟨yZ284, hZ284, hbZ284, r289, rfl, h⟩ := q287
  have hZ := hZ284
  have hx : jext Z0 Z284 := jext_trans hx yZ284
  have hb := hbZ284
  have k290 := (yZ284 _ _ kv1).1
  have k291 := (yZ284 _ _ kv2).1
  have k292 := (yZ284 _ _ kv3).1
  show jJ G 8 817 [(0, .ref b), (1, .ref v1), (2, .ref v2), (3, .ref v3), (4, .int v4)] [.int r289] Z284 I285 L286 (k9 + (jcz Z284 - jcz Z5) + 0) (n9 + (jsz Z284 - jsz Z5) + 0)
  refine j_pop E dL_law_817 rfl ?_
  refine j_goto E 1732 dL_law_818 (by decide) ?_
  refine j_sub [0, 1, 2, 3, 4] rfl ?_
  refine j_widen (k9 := k9 + (jcz Z284 - jcz Z5) + 27) (n9 := n9 + (jsz Z284 - jsz Z5) + 600) (by show k9 + (jcz Z284 - jcz Z5) + 0 ≤ _; omega) (by show n9 + (jsz Z284 - jsz Z5) + 0 ≤ _; omega) ?_
  exact m_L_law_b1732 E hX hV hU hl0 hb9 hn9 K23 hK23 v1 v2 v3 v4 Z284 I285 L286 hZ hx hc hb k290 k291 k292 h
set_option maxRecDepth 100000 in
def f_L_law_b821 (xs : Nat → Int32) (Ls : Nat) (B : Nat × Nat) (K23 : Nat → Nat → Nat → Int32 → jZ → jI → jL → Prop) (v1 : Nat) (v2 : Nat) (v3 : Nat) (v4 : Int32) (Z : jZ) (I : jI) (L : jL) : Prop := (vp_in (v4 + (1 : Int32)) Ls ∧ (f_X11_returns v1 (xs (v4 + (1 : Int32)).toNatClampNeg) Z I L (fun r300 I296 L297 => (vp_in (v4 + (1 : Int32)) Ls ∧ (f_X12_returns v2 (xs (v4 + (1 : Int32)).toNatClampNeg) Z I296 L297 (fun r308 I304 L305 => f_L_law_b1732 xs Ls B K23 v1 v2 v3 v4 Z I304 L305))))))
set_option maxHeartbeats 4000000 in
set_option maxRecDepth 100000 in
theorem m_L_law_b821 {G : jG} {Z0 : jZ} {xs : Nat → Int32} {Ls b k9 n9 sa sb : Nat} {B : Nat × Nat} {Z5 : jZ} (E : jE G cL_law RL (Cond.arrayClass .byte :: jT) 8 (some .boolean) room_1 jRL) (hX : va_X b Ls xs (gS G) (gS G).heap ∧ b < (gS G).heap.size ∧ ¬ gA G b) (hV : jV (gA G) (gS G) (gS G).heap) (hU : jU sa sb (gA G) (gS G) (gS G).heap) (hl0 : (gL G).stackTraces = false) (hb9 : k9 + 27 + (B.1 - jcz Z5) ≤ 601024) (hn9 : n9 + 600 + (B.2 - jsz Z5) ≤ 7293034) (K23 : Nat → Nat → Nat → Int32 → jZ → jI → jL → Prop) (hK23 : ∀ (v1 : Nat) (v2 : Nat) (v3 : Nat) (v4 : Int32) (Z : jZ) (I : jI) (L : jL), SH Z → jext Z0 Z → jle Z5 Z → jin B Z → jk Z v1 11 → jk Z v2 12 → jk Z v3 15 → K23 v1 v2 v3 v4 Z I L → jJ G 8 23 [(0, .ref b), (1, .ref v1), (2, .ref v2), (3, .ref v3), (4, .int v4)] [] Z I L (k9 + (jcz Z - jcz Z5) + 27) (n9 + (jsz Z - jsz Z5) + 600)) (v1 : Nat) (v2 : Nat) (v3 : Nat) (v4 : Int32) (Z : jZ) (I : jI) (L : jL) (hZ : SH Z) (hx : jext Z0 Z) (hc : jle Z5 Z) (hb : jin B Z) (kv1 : jk Z v1 11) (kv2 : jk Z v2 12) (kv3 : jk Z v3 15) (h : f_L_law_b821 xs Ls B K23 v1 v2 v3 v4 Z I L) : jJ G 8 821 [(0, .ref b), (1, .ref v1), (2, .ref v2), (3, .ref v3), (4, .int v4)] [] Z I L (k9 + (jcz Z - jcz Z5) + 0) (n9 + (jsz Z - jsz Z5) + 0) := by
  unfold f_L_law_b821 at h
  refine j_aload_n E dL_law_821 1 rfl ?_
  refine j_aload_n E dL_law_822 0 rfl ?_
  refine j_iload E dL_law_823 4 rfl ?_
  refine j_iconst E (v := 1) dL_law_825 (by decide) ?_
  refine j_iadd E dL_law_826 ?_
  obtain ⟨o293, h⟩ := h
  refine j_sld E hX.1 hX.2.1 hX.2.2 o293 dL_law_827 ?_
  refine j_callV E [.int (xs (v4 + (1 : Int32)).toNatClampNeg)] [] (c_X11_returns (gL G) (gD G) (gY G) v1 (xs (v4 + (1 : Int32)).toNatClampNeg) Z I L _ hZ kv1 h) (gwV W_1329 W_1330 W_1331 W_40 W_1328) rfl ⟨rfl, fy_X11_returns⟩ ⟨by decide, by decide⟩ (c := 11) rfl (by decide) kv1 rfl rfl (Nat.le_of_ble_eq_true rfl) ⟨by show k9 + (jcz Z - jcz Z5) + 0 + 0 ≤ 601024; have := hb.1; omega, by show n9 + (jsz Z - jsz Z5) + 0 + 0 ≤ 7293034; have := hb.2; omega⟩ dL_law_828 (fun v294 Z295 I296 L297 q298 => ?_)
  obtain ⟨rfl, r300, rfl, h⟩ := q298
  show jJ G 8 831 [(0, .ref b), (1, .ref v1), (2, .ref v2), (3, .ref v3), (4, .int v4)] [.int r300] Z I296 L297 (k9 + (jcz Z - jcz Z5) + 0) (n9 + (jsz Z - jsz Z5) + 0)
  refine j_pop E dL_law_831 rfl ?_
  refine j_aload_n E dL_law_832 2 rfl ?_
  refine j_aload_n E dL_law_833 0 rfl ?_
  refine j_iload E dL_law_834 4 rfl ?_
  refine j_iconst E (v := 1) dL_law_836 (by decide) ?_
  refine j_iadd E dL_law_837 ?_
  obtain ⟨o301, h⟩ := h
  refine j_sld E hX.1 hX.2.1 hX.2.2 o301 dL_law_838 ?_
  refine j_callV E [.int (xs (v4 + (1 : Int32)).toNatClampNeg)] [] (c_X12_returns (gL G) (gD G) (gY G) v2 (xs (v4 + (1 : Int32)).toNatClampNeg) Z I296 L297 _ hZ kv2 h) (gwV W_1333 W_1334 W_1335 W_695 W_1332) rfl ⟨rfl, fy_X12_returns⟩ ⟨by decide, by decide⟩ (c := 12) rfl (by decide) kv2 rfl rfl (Nat.le_of_ble_eq_true rfl) ⟨by show k9 + (jcz Z - jcz Z5) + 0 + 0 ≤ 601024; have := hb.1; omega, by show n9 + (jsz Z - jsz Z5) + 0 + 0 ≤ 7293034; have := hb.2; omega⟩ dL_law_839 (fun v302 Z303 I304 L305 q306 => ?_)
  obtain ⟨rfl, r308, rfl, h⟩ := q306
  show jJ G 8 842 [(0, .ref b), (1, .ref v1), (2, .ref v2), (3, .ref v3), (4, .int v4)] [.int r308] Z I304 L305 (k9 + (jcz Z - jcz Z5) + 0) (n9 + (jsz Z - jsz Z5) + 0)
  refine j_pop E dL_law_842 rfl ?_
  refine j_goto E 1732 dL_law_843 (by decide) ?_
  refine j_sub [0, 1, 2, 3, 4] rfl ?_
  refine j_widen (k9 := k9 + (jcz Z - jcz Z5) + 27) (n9 := n9 + (jsz Z - jsz Z5) + 600) (by show k9 + (jcz Z - jcz Z5) + 0 ≤ _; omega) (by show n9 + (jsz Z - jsz Z5) + 0 ≤ _; omega) ?_
  exact m_L_law_b1732 E hX hV hU hl0 hb9 hn9 K23 hK23 v1 v2 v3 v4 Z I304 L305 hZ hx hc hb kv1 kv2 kv3 h
set_option maxRecDepth 100000 in
def f_L_law_b846 (xs : Nat → Int32) (Ls : Nat) (B : Nat × Nat) (K23 : Nat → Nat → Nat → Int32 → jZ → jI → jL → Prop) (v1 : Nat) (v2 : Nat) (v3 : Nat) (v4 : Int32) (Z : jZ) (I : jI) (L : jL) : Prop := (vp_in (v4 + (1 : Int32)) Ls ∧ (f_X11_earned v1 (xs (v4 + (1 : Int32)).toNatClampNeg) Z I L (fun r316 I312 L313 => (vp_in (v4 + (1 : Int32)) Ls ∧ (f_X12_earned v2 (xs (v4 + (1 : Int32)).toNatClampNeg) Z I312 L313 (fun r324 I320 L321 => f_L_law_b1732 xs Ls B K23 v1 v2 v3 v4 Z I320 L321))))))
set_option maxHeartbeats 4000000 in
set_option maxRecDepth 100000 in
theorem m_L_law_b846 {G : jG} {Z0 : jZ} {xs : Nat → Int32} {Ls b k9 n9 sa sb : Nat} {B : Nat × Nat} {Z5 : jZ} (E : jE G cL_law RL (Cond.arrayClass .byte :: jT) 8 (some .boolean) room_1 jRL) (hX : va_X b Ls xs (gS G) (gS G).heap ∧ b < (gS G).heap.size ∧ ¬ gA G b) (hV : jV (gA G) (gS G) (gS G).heap) (hU : jU sa sb (gA G) (gS G) (gS G).heap) (hl0 : (gL G).stackTraces = false) (hb9 : k9 + 27 + (B.1 - jcz Z5) ≤ 601024) (hn9 : n9 + 600 + (B.2 - jsz Z5) ≤ 7293034) (K23 : Nat → Nat → Nat → Int32 → jZ → jI → jL → Prop) (hK23 : ∀ (v1 : Nat) (v2 : Nat) (v3 : Nat) (v4 : Int32) (Z : jZ) (I : jI) (L : jL), SH Z → jext Z0 Z → jle Z5 Z → jin B Z → jk Z v1 11 → jk Z v2 12 → jk Z v3 15 → K23 v1 v2 v3 v4 Z I L → jJ G 8 23 [(0, .ref b), (1, .ref v1), (2, .ref v2), (3, .ref v3), (4, .int v4)] [] Z I L (k9 + (jcz Z - jcz Z5) + 27) (n9 + (jsz Z - jsz Z5) + 600)) (v1 : Nat) (v2 : Nat) (v3 : Nat) (v4 : Int32) (Z : jZ) (I : jI) (L : jL) (hZ : SH Z) (hx : jext Z0 Z) (hc : jle Z5 Z) (hb : jin B Z) (kv1 : jk Z v1 11) (kv2 : jk Z v2 12) (kv3 : jk Z v3 15) (h : f_L_law_b846 xs Ls B K23 v1 v2 v3 v4 Z I L) : jJ G 8 846 [(0, .ref b), (1, .ref v1), (2, .ref v2), (3, .ref v3), (4, .int v4)] [] Z I L (k9 + (jcz Z - jcz Z5) + 0) (n9 + (jsz Z - jsz Z5) + 0) := by
  unfold f_L_law_b846 at h
  refine j_aload_n E dL_law_846 1 rfl ?_
  refine j_aload_n E dL_law_847 0 rfl ?_
  refine j_iload E dL_law_848 4 rfl ?_
  refine j_iconst E (v := 1) dL_law_850 (by decide) ?_
  refine j_iadd E dL_law_851 ?_
  obtain ⟨o309, h⟩ := h
  refine j_sld E hX.1 hX.2.1 hX.2.2 o309 dL_law_852 ?_
  refine j_callV E [.int (xs (v4 + (1 : Int32)).toNatClampNeg)] [] (c_X11_earned (gL G) (gD G) (gY G) v1 (xs (v4 + (1 : Int32)).toNatClampNeg) Z I L _ hZ kv1 h) (gwV W_1337 W_1338 W_1339 W_40 W_1336) rfl ⟨rfl, fy_X11_earned⟩ ⟨by decide, by decide⟩ (c := 11) rfl (by decide) kv1 rfl rfl (Nat.le_of_ble_eq_true rfl) ⟨by show k9 + (jcz Z - jcz Z5) + 0 + 0 ≤ 601024; have := hb.1; omega, by show n9 + (jsz Z - jsz Z5) + 0 + 0 ≤ 7293034; have := hb.2; omega⟩ dL_law_853 (fun v310 Z311 I312 L313 q314 => ?_)
  obtain ⟨rfl, r316, rfl, h⟩ := q314
  show jJ G 8 856 [(0, .ref b), (1, .ref v1), (2, .ref v2), (3, .ref v3), (4, .int v4)] [.int r316] Z I312 L313 (k9 + (jcz Z - jcz Z5) + 0) (n9 + (jsz Z - jsz Z5) + 0)
  refine j_pop E dL_law_856 rfl ?_
  refine j_aload_n E dL_law_857 2 rfl ?_
  refine j_aload_n E dL_law_858 0 rfl ?_
  refine j_iload E dL_law_859 4 rfl ?_
  refine j_iconst E (v := 1) dL_law_861 (by decide) ?_
  refine j_iadd E dL_law_862 ?_
  obtain ⟨o317, h⟩ := h
  refine j_sld E hX.1 hX.2.1 hX.2.2 o317 dL_law_863 ?_
  refine j_callV E [.int (xs (v4 + (1 : Int32)).toNatClampNeg)] [] (c_X12_earned (gL G) (gD G) (gY G) v2 (xs (v4 + (1 : Int32)).toNatClampNeg) Z I312 L313 _ hZ kv2 h) (gwV W_1341 W_1342 W_1343 W_695 W_1340) rfl ⟨rfl, fy_X12_earned⟩ ⟨by decide, by decide⟩ (c := 12) rfl (by decide) kv2 rfl rfl (Nat.le_of_ble_eq_true rfl) ⟨by show k9 + (jcz Z - jcz Z5) + 0 + 0 ≤ 601024; have := hb.1; omega, by show n9 + (jsz Z - jsz Z5) + 0 + 0 ≤ 7293034; have := hb.2; omega⟩ dL_law_864 (fun v318 Z319 I320 L321 q322 => ?_)
  obtain ⟨rfl, r324, rfl, h⟩ := q322
  show jJ G 8 867 [(0, .ref b), (1, .ref v1), (2, .ref v2), (3, .ref v3), (4, .int v4)] [.int r324] Z I320 L321 (k9 + (jcz Z - jcz Z5) + 0) (n9 + (jsz Z - jsz Z5) + 0)
  refine j_pop E dL_law_867 rfl ?_
  refine j_goto E 1732 dL_law_868 (by decide) ?_
  refine j_sub [0, 1, 2, 3, 4] rfl ?_
  refine j_widen (k9 := k9 + (jcz Z - jcz Z5) + 27) (n9 := n9 + (jsz Z - jsz Z5) + 600) (by show k9 + (jcz Z - jcz Z5) + 0 ≤ _; omega) (by show n9 + (jsz Z - jsz Z5) + 0 ≤ _; omega) ?_
  exact m_L_law_b1732 E hX hV hU hl0 hb9 hn9 K23 hK23 v1 v2 v3 v4 Z I320 L321 hZ hx hc hb kv1 kv2 kv3 h
set_option maxRecDepth 100000 in
def f_L_law_b871 (xs : Nat → Int32) (Ls : Nat) (B : Nat × Nat) (K23 : Nat → Nat → Nat → Int32 → jZ → jI → jL → Prop) (v1 : Nat) (v2 : Nat) (v3 : Nat) (v4 : Int32) (Z : jZ) (I : jI) (L : jL) : Prop := (vp_in (v4 + (1 : Int32)) Ls ∧ (f_X11_climb B v1 (xs (v4 + (1 : Int32)).toNatClampNeg) Z I L (fun r332 Z327 I328 L329 => (vp_in (v4 + (1 : Int32)) Ls ∧ (f_X12_climb B v2 (xs (v4 + (1 : Int32)).toNatClampNeg) Z327 I328 L329 (fun r343 Z338 I339 L340 => f_L_law_b1732 xs Ls B K23 v1 v2 v3 v4 Z338 I339 L340))))))
set_option maxHeartbeats 4000000 in
set_option maxRecDepth 100000 in
theorem m_L_law_b871 {G : jG} {Z0 : jZ} {xs : Nat → Int32} {Ls b k9 n9 sa sb : Nat} {B : Nat × Nat} {Z5 : jZ} (E : jE G cL_law RL (Cond.arrayClass .byte :: jT) 8 (some .boolean) room_1 jRL) (hX : va_X b Ls xs (gS G) (gS G).heap ∧ b < (gS G).heap.size ∧ ¬ gA G b) (hV : jV (gA G) (gS G) (gS G).heap) (hU : jU sa sb (gA G) (gS G) (gS G).heap) (hl0 : (gL G).stackTraces = false) (hb9 : k9 + 27 + (B.1 - jcz Z5) ≤ 601024) (hn9 : n9 + 600 + (B.2 - jsz Z5) ≤ 7293034) (K23 : Nat → Nat → Nat → Int32 → jZ → jI → jL → Prop) (hK23 : ∀ (v1 : Nat) (v2 : Nat) (v3 : Nat) (v4 : Int32) (Z : jZ) (I : jI) (L : jL), SH Z → jext Z0 Z → jle Z5 Z → jin B Z → jk Z v1 11 → jk Z v2 12 → jk Z v3 15 → K23 v1 v2 v3 v4 Z I L → jJ G 8 23 [(0, .ref b), (1, .ref v1), (2, .ref v2), (3, .ref v3), (4, .int v4)] [] Z I L (k9 + (jcz Z - jcz Z5) + 27) (n9 + (jsz Z - jsz Z5) + 600)) (v1 : Nat) (v2 : Nat) (v3 : Nat) (v4 : Int32) (Z : jZ) (I : jI) (L : jL) (hZ : SH Z) (hx : jext Z0 Z) (hc : jle Z5 Z) (hb : jin B Z) (kv1 : jk Z v1 11) (kv2 : jk Z v2 12) (kv3 : jk Z v3 15) (h : f_L_law_b871 xs Ls B K23 v1 v2 v3 v4 Z I L) : jJ G 8 871 [(0, .ref b), (1, .ref v1), (2, .ref v2), (3, .ref v3), (4, .int v4)] [] Z I L (k9 + (jcz Z - jcz Z5) + 0) (n9 + (jsz Z - jsz Z5) + 0) := by
  unfold f_L_law_b871 at h
  refine j_aload_n E dL_law_871 1 rfl ?_
  refine j_aload_n E dL_law_872 0 rfl ?_
  refine j_iload E dL_law_873 4 rfl ?_
  refine j_iconst E (v := 1) dL_law_875 (by decide) ?_
  refine j_iadd E dL_law_876 ?_
  obtain ⟨o325, h⟩ := h
  refine j_sld E hX.1 hX.2.1 hX.2.2 o325 dL_law_877 ?_
  refine ju_callV E [.int (xs (v4 + (1 : Int32)).toNatClampNeg)] [] (c_X11_climb (gL G) (gD G) (gY G) B v1 (xs (v4 + (1 : Int32)).toNatClampNeg) Z I L _ hZ hb kv1 h) (gwV W_1345 W_1346 W_1347 W_40 W_1344) rfl ⟨rfl, fy_X11_climb⟩ ⟨by decide, by decide⟩ (c := 11) rfl (by decide) kv1 rfl rfl (Nat.le_of_ble_eq_true rfl) ⟨by show k9 + (jcz Z - jcz Z5) + 0 + (B.1 - jcz Z) ≤ 601024; have := hb.1; have := hc.1; omega, by show n9 + (jsz Z - jsz Z5) + 0 + (B.2 - jsz Z) ≤ 7293034; have := hb.2; have := hc.2; omega⟩ dL_law_878 (fun v326 Z327 I328 L329 q330 j331 => ?_)
  refine j_kn (k' := k9 + (jcz Z327 - jcz Z5) + 0) (n' := n9 + (jsz Z327 - jsz Z5) + 0) (by have := hc.1; have := j331.1; omega) (by have := hc.2; have := j331.2; omega) ?_
  have hc := jle_trans hc j331
  obtain ⟨yZ327, hZ327, hbZ327, r332, rfl, h⟩ := q330
  have hZ := hZ327
  have hx : jext Z0 Z327 := jext_trans hx yZ327
  have hb := hbZ327
  have k333 := (yZ327 _ _ kv1).1
  have k334 := (yZ327 _ _ kv2).1
  have k335 := (yZ327 _ _ kv3).1
  show jJ G 8 881 [(0, .ref b), (1, .ref v1), (2, .ref v2), (3, .ref v3), (4, .int v4)] [.int r332] Z327 I328 L329 (k9 + (jcz Z327 - jcz Z5) + 0) (n9 + (jsz Z327 - jsz Z5) + 0)
  refine j_pop E dL_law_881 rfl ?_
  refine j_aload_n E dL_law_882 2 rfl ?_
  refine j_aload_n E dL_law_883 0 rfl ?_
  refine j_iload E dL_law_884 4 rfl ?_
  refine j_iconst E (v := 1) dL_law_886 (by decide) ?_
  refine j_iadd E dL_law_887 ?_
  obtain ⟨o336, h⟩ := h
  refine j_sld E hX.1 hX.2.1 hX.2.2 o336 dL_law_888 ?_
  refine ju_callV E [.int (xs (v4 + (1 : Int32)).toNatClampNeg)] [] (c_X12_climb (gL G) (gD G) (gY G) B v2 (xs (v4 + (1 : Int32)).toNatClampNeg) Z327 I328 L329 _ hZ hb k334 h) (gwV W_1349 W_1350 W_1351 W_695 W_1348) rfl ⟨rfl, fy_X12_climb⟩ ⟨by decide, by decide⟩ (c := 12) rfl (by decide) k334 rfl rfl (Nat.le_of_ble_eq_true rfl) ⟨by show k9 + (jcz Z327 - jcz Z5) + 0 + (B.1 - jcz Z327) ≤ 601024; have := hb.1; have := hc.1; omega, by show n9 + (jsz Z327 - jsz Z5) + 0 + (B.2 - jsz Z327) ≤ 7293034; have := hb.2; have := hc.2; omega⟩ dL_law_889 (fun v337 Z338 I339 L340 q341 j342 => ?_)
  refine j_kn (k' := k9 + (jcz Z338 - jcz Z5) + 0) (n' := n9 + (jsz Z338 - jsz Z5) + 0) (by have := hc.1; have := j342.1; omega) (by have := hc.2; have := j342.2; omega) ?_
  have hc := jle_trans hc j342
  obtain ⟨yZ338, hZ338, hbZ338, r343, rfl, h⟩ := q341
  have hZ := hZ338
  have hx : jext Z0 Z338 := jext_trans hx yZ338
  have hb := hbZ338
  have k344 := (yZ338 _ _ k333).1
  have k345 := (yZ338 _ _ k334).1
  have k346 := (yZ338 _ _ k335).1
  show jJ G 8 892 [(0, .ref b), (1, .ref v1), (2, .ref v2), (3, .ref v3), (4, .int v4)] [.int r343] Z338 I339 L340 (k9 + (jcz Z338 - jcz Z5) + 0) (n9 + (jsz Z338 - jsz Z5) + 0)
  refine j_pop E dL_law_892 rfl ?_
  refine j_goto E 1732 dL_law_893 (by decide) ?_
  refine j_sub [0, 1, 2, 3, 4] rfl ?_
  refine j_widen (k9 := k9 + (jcz Z338 - jcz Z5) + 27) (n9 := n9 + (jsz Z338 - jsz Z5) + 600) (by show k9 + (jcz Z338 - jcz Z5) + 0 ≤ _; omega) (by show n9 + (jsz Z338 - jsz Z5) + 0 ≤ _; omega) ?_
  exact m_L_law_b1732 E hX hV hU hl0 hb9 hn9 K23 hK23 v1 v2 v3 v4 Z338 I339 L340 hZ hx hc hb k344 k345 k346 h
set_option maxRecDepth 100000 in
def f_L_law_b896 (xs : Nat → Int32) (Ls : Nat) (B : Nat × Nat) (K23 : Nat → Nat → Nat → Int32 → jZ → jI → jL → Prop) (v1 : Nat) (v2 : Nat) (v3 : Nat) (v4 : Int32) (Z : jZ) (I : jI) (L : jL) : Prop := (vp_in (v4 + (1 : Int32)) Ls ∧ (f_X11_knees B v1 (xs (v4 + (1 : Int32)).toNatClampNeg) Z I L (fun r354 Z349 I350 L351 => (vp_in (v4 + (1 : Int32)) Ls ∧ (f_X12_knees B v2 (xs (v4 + (1 : Int32)).toNatClampNeg) Z349 I350 L351 (fun r365 Z360 I361 L362 => f_L_law_b1732 xs Ls B K23 v1 v2 v3 v4 Z360 I361 L362))))))
set_option maxHeartbeats 4000000 in
set_option maxRecDepth 100000 in
theorem m_L_law_b896 {G : jG} {Z0 : jZ} {xs : Nat → Int32} {Ls b k9 n9 sa sb : Nat} {B : Nat × Nat} {Z5 : jZ} (E : jE G cL_law RL (Cond.arrayClass .byte :: jT) 8 (some .boolean) room_1 jRL) (hX : va_X b Ls xs (gS G) (gS G).heap ∧ b < (gS G).heap.size ∧ ¬ gA G b) (hV : jV (gA G) (gS G) (gS G).heap) (hU : jU sa sb (gA G) (gS G) (gS G).heap) (hl0 : (gL G).stackTraces = false) (hb9 : k9 + 27 + (B.1 - jcz Z5) ≤ 601024) (hn9 : n9 + 600 + (B.2 - jsz Z5) ≤ 7293034) (K23 : Nat → Nat → Nat → Int32 → jZ → jI → jL → Prop) (hK23 : ∀ (v1 : Nat) (v2 : Nat) (v3 : Nat) (v4 : Int32) (Z : jZ) (I : jI) (L : jL), SH Z → jext Z0 Z → jle Z5 Z → jin B Z → jk Z v1 11 → jk Z v2 12 → jk Z v3 15 → K23 v1 v2 v3 v4 Z I L → jJ G 8 23 [(0, .ref b), (1, .ref v1), (2, .ref v2), (3, .ref v3), (4, .int v4)] [] Z I L (k9 + (jcz Z - jcz Z5) + 27) (n9 + (jsz Z - jsz Z5) + 600)) (v1 : Nat) (v2 : Nat) (v3 : Nat) (v4 : Int32) (Z : jZ) (I : jI) (L : jL) (hZ : SH Z) (hx : jext Z0 Z) (hc : jle Z5 Z) (hb : jin B Z) (kv1 : jk Z v1 11) (kv2 : jk Z v2 12) (kv3 : jk Z v3 15) (h : f_L_law_b896 xs Ls B K23 v1 v2 v3 v4 Z I L) : jJ G 8 896 [(0, .ref b), (1, .ref v1), (2, .ref v2), (3, .ref v3), (4, .int v4)] [] Z I L (k9 + (jcz Z - jcz Z5) + 0) (n9 + (jsz Z - jsz Z5) + 0) := by
  unfold f_L_law_b896 at h
  refine j_aload_n E dL_law_896 1 rfl ?_
  refine j_aload_n E dL_law_897 0 rfl ?_
  refine j_iload E dL_law_898 4 rfl ?_
  refine j_iconst E (v := 1) dL_law_900 (by decide) ?_
  refine j_iadd E dL_law_901 ?_
  obtain ⟨o347, h⟩ := h
  refine j_sld E hX.1 hX.2.1 hX.2.2 o347 dL_law_902 ?_
  refine ju_callV E [.int (xs (v4 + (1 : Int32)).toNatClampNeg)] [] (c_X11_knees (gL G) (gD G) (gY G) B v1 (xs (v4 + (1 : Int32)).toNatClampNeg) Z I L _ hZ hb kv1 h) (gwV W_1353 W_1354 W_1355 W_40 W_1352) rfl ⟨rfl, fy_X11_knees⟩ ⟨by decide, by decide⟩ (c := 11) rfl (by decide) kv1 rfl rfl (Nat.le_of_ble_eq_true rfl) ⟨by show k9 + (jcz Z - jcz Z5) + 0 + (B.1 - jcz Z) ≤ 601024; have := hb.1; have := hc.1; omega, by show n9 + (jsz Z - jsz Z5) + 0 + (B.2 - jsz Z) ≤ 7293034; have := hb.2; have := hc.2; omega⟩ dL_law_903 (fun v348 Z349 I350 L351 q352 j353 => ?_)
  refine j_kn (k' := k9 + (jcz Z349 - jcz Z5) + 0) (n' := n9 + (jsz Z349 - jsz Z5) + 0) (by have := hc.1; have := j353.1; omega) (by have := hc.2; have := j353.2; omega) ?_
  have hc := jle_trans hc j353
  obtain ⟨yZ349, hZ349, hbZ349, r354, rfl, h⟩ := q352
  have hZ := hZ349
  have hx : jext Z0 Z349 := jext_trans hx yZ349
  have hb := hbZ349
  have k355 := (yZ349 _ _ kv1).1
  have k356 := (yZ349 _ _ kv2).1
  have k357 := (yZ349 _ _ kv3).1
  show jJ G 8 906 [(0, .ref b), (1, .ref v1), (2, .ref v2), (3, .ref v3), (4, .int v4)] [.int r354] Z349 I350 L351 (k9 + (jcz Z349 - jcz Z5) + 0) (n9 + (jsz Z349 - jsz Z5) + 0)
  refine j_pop E dL_law_906 rfl ?_
  refine j_aload_n E dL_law_907 2 rfl ?_
  refine j_aload_n E dL_law_908 0 rfl ?_
  refine j_iload E dL_law_909 4 rfl ?_
  refine j_iconst E (v := 1) dL_law_911 (by decide) ?_
  refine j_iadd E dL_law_912 ?_
  obtain ⟨o358, h⟩ := h
  refine j_sld E hX.1 hX.2.1 hX.2.2 o358 dL_law_913 ?_
  refine ju_callV E [.int (xs (v4 + (1 : Int32)).toNatClampNeg)] [] (c_X12_knees (gL G) (gD G) (gY G) B v2 (xs (v4 + (1 : Int32)).toNatClampNeg) Z349 I350 L351 _ hZ hb k356 h) (gwV W_1357 W_1358 W_1359 W_695 W_1356) rfl ⟨rfl, fy_X12_knees⟩ ⟨by decide, by decide⟩ (c := 12) rfl (by decide) k356 rfl rfl (Nat.le_of_ble_eq_true rfl) ⟨by show k9 + (jcz Z349 - jcz Z5) + 0 + (B.1 - jcz Z349) ≤ 601024; have := hb.1; have := hc.1; omega, by show n9 + (jsz Z349 - jsz Z5) + 0 + (B.2 - jsz Z349) ≤ 7293034; have := hb.2; have := hc.2; omega⟩ dL_law_914 (fun v359 Z360 I361 L362 q363 j364 => ?_)
  refine j_kn (k' := k9 + (jcz Z360 - jcz Z5) + 0) (n' := n9 + (jsz Z360 - jsz Z5) + 0) (by have := hc.1; have := j364.1; omega) (by have := hc.2; have := j364.2; omega) ?_
  have hc := jle_trans hc j364
  obtain ⟨yZ360, hZ360, hbZ360, r365, rfl, h⟩ := q363
  have hZ := hZ360
  have hx : jext Z0 Z360 := jext_trans hx yZ360
  have hb := hbZ360
  have k366 := (yZ360 _ _ k355).1
  have k367 := (yZ360 _ _ k356).1
  have k368 := (yZ360 _ _ k357).1
  show jJ G 8 917 [(0, .ref b), (1, .ref v1), (2, .ref v2), (3, .ref v3), (4, .int v4)] [.int r365] Z360 I361 L362 (k9 + (jcz Z360 - jcz Z5) + 0) (n9 + (jsz Z360 - jsz Z5) + 0)
  refine j_pop E dL_law_917 rfl ?_
  refine j_goto E 1732 dL_law_918 (by decide) ?_
  refine j_sub [0, 1, 2, 3, 4] rfl ?_
  refine j_widen (k9 := k9 + (jcz Z360 - jcz Z5) + 27) (n9 := n9 + (jsz Z360 - jsz Z5) + 600) (by show k9 + (jcz Z360 - jcz Z5) + 0 ≤ _; omega) (by show n9 + (jsz Z360 - jsz Z5) + 0 ≤ _; omega) ?_
  exact m_L_law_b1732 E hX hV hU hl0 hb9 hn9 K23 hK23 v1 v2 v3 v4 Z360 I361 L362 hZ hx hc hb k366 k367 k368 h
set_option maxRecDepth 100000 in
def f_L_law_b921 (xs : Nat → Int32) (Ls : Nat) (B : Nat × Nat) (K23 : Nat → Nat → Nat → Int32 → jZ → jI → jL → Prop) (v1 : Nat) (v2 : Nat) (v3 : Nat) (v4 : Int32) (Z : jZ) (I : jI) (L : jL) : Prop := (vp_in (v4 + (1 : Int32)) Ls ∧ (vp_in (v4 + (2 : Int32)) Ls ∧ (f_X11_ways B v1 (xs (v4 + (1 : Int32)).toNatClampNeg) (xs (v4 + (2 : Int32)).toNatClampNeg) Z I L (fun r377 Z372 I373 L374 => (vp_in (v4 + (1 : Int32)) Ls ∧ (vp_in (v4 + (2 : Int32)) Ls ∧ (f_X12_ways B v2 (xs (v4 + (1 : Int32)).toNatClampNeg) (xs (v4 + (2 : Int32)).toNatClampNeg) Z372 I373 L374 (fun r389 Z384 I385 L386 => f_L_law_b1732 xs Ls B K23 v1 v2 v3 v4 Z384 I385 L386))))))))
set_option maxHeartbeats 4000000 in
set_option maxRecDepth 100000 in
theorem m_L_law_b921 {G : jG} {Z0 : jZ} {xs : Nat → Int32} {Ls b k9 n9 sa sb : Nat} {B : Nat × Nat} {Z5 : jZ} (E : jE G cL_law RL (Cond.arrayClass .byte :: jT) 8 (some .boolean) room_1 jRL) (hX : va_X b Ls xs (gS G) (gS G).heap ∧ b < (gS G).heap.size ∧ ¬ gA G b) (hV : jV (gA G) (gS G) (gS G).heap) (hU : jU sa sb (gA G) (gS G) (gS G).heap) (hl0 : (gL G).stackTraces = false) (hb9 : k9 + 27 + (B.1 - jcz Z5) ≤ 601024) (hn9 : n9 + 600 + (B.2 - jsz Z5) ≤ 7293034) (K23 : Nat → Nat → Nat → Int32 → jZ → jI → jL → Prop) (hK23 : ∀ (v1 : Nat) (v2 : Nat) (v3 : Nat) (v4 : Int32) (Z : jZ) (I : jI) (L : jL), SH Z → jext Z0 Z → jle Z5 Z → jin B Z → jk Z v1 11 → jk Z v2 12 → jk Z v3 15 → K23 v1 v2 v3 v4 Z I L → jJ G 8 23 [(0, .ref b), (1, .ref v1), (2, .ref v2), (3, .ref v3), (4, .int v4)] [] Z I L (k9 + (jcz Z - jcz Z5) + 27) (n9 + (jsz Z - jsz Z5) + 600)) (v1 : Nat) (v2 : Nat) (v3 : Nat) (v4 : Int32) (Z : jZ) (I : jI) (L : jL) (hZ : SH Z) (hx : jext Z0 Z) (hc : jle Z5 Z) (hb : jin B Z) (kv1 : jk Z v1 11) (kv2 : jk Z v2 12) (kv3 : jk Z v3 15) (h : f_L_law_b921 xs Ls B K23 v1 v2 v3 v4 Z I L) : jJ G 8 921 [(0, .ref b), (1, .ref v1), (2, .ref v2), (3, .ref v3), (4, .int v4)] [] Z I L (k9 + (jcz Z - jcz Z5) + 0) (n9 + (jsz Z - jsz Z5) + 0) := by
  unfold f_L_law_b921 at h
  refine j_aload_n E dL_law_921 1 rfl ?_
  refine j_aload_n E dL_law_922 0 rfl ?_
  refine j_iload E dL_law_923 4 rfl ?_
  refine j_iconst E (v := 1) dL_law_925 (by decide) ?_
  refine j_iadd E dL_law_926 ?_
  obtain ⟨o369, h⟩ := h
  refine j_sld E hX.1 hX.2.1 hX.2.2 o369 dL_law_927 ?_
  refine j_aload_n E dL_law_928 0 rfl ?_
  refine j_iload E dL_law_929 4 rfl ?_
  refine j_iconst E (v := 2) dL_law_931 (by decide) ?_
  refine j_iadd E dL_law_932 ?_
  obtain ⟨o370, h⟩ := h
  refine j_sld E hX.1 hX.2.1 hX.2.2 o370 dL_law_933 ?_
  refine ju_callV E [.int (xs (v4 + (1 : Int32)).toNatClampNeg), .int (xs (v4 + (2 : Int32)).toNatClampNeg)] [] (c_X11_ways (gL G) (gD G) (gY G) B v1 (xs (v4 + (1 : Int32)).toNatClampNeg) (xs (v4 + (2 : Int32)).toNatClampNeg) Z I L _ hZ hb kv1 h) (gwV W_1361 W_1362 W_1363 W_40 W_1360) rfl ⟨rfl, fy_X11_ways⟩ ⟨by decide, by decide⟩ (c := 11) rfl (by decide) kv1 rfl rfl (Nat.le_of_ble_eq_true rfl) ⟨by show k9 + (jcz Z - jcz Z5) + 0 + (B.1 - jcz Z) ≤ 601024; have := hb.1; have := hc.1; omega, by show n9 + (jsz Z - jsz Z5) + 0 + (B.2 - jsz Z) ≤ 7293034; have := hb.2; have := hc.2; omega⟩ dL_law_934 (fun v371 Z372 I373 L374 q375 j376 => ?_)
  refine j_kn (k' := k9 + (jcz Z372 - jcz Z5) + 0) (n' := n9 + (jsz Z372 - jsz Z5) + 0) (by have := hc.1; have := j376.1; omega) (by have := hc.2; have := j376.2; omega) ?_
  have hc := jle_trans hc j376
  obtain ⟨yZ372, hZ372, hbZ372, r377, rfl, h⟩ := q375
  have hZ := hZ372
  have hx : jext Z0 Z372 := jext_trans hx yZ372
  have hb := hbZ372
  have k378 := (yZ372 _ _ kv1).1
  have k379 := (yZ372 _ _ kv2).1
  have k380 := (yZ372 _ _ kv3).1
  show jJ G 8 937 [(0, .ref b), (1, .ref v1), (2, .ref v2), (3, .ref v3), (4, .int v4)] [.long r377] Z372 I373 L374 (k9 + (jcz Z372 - jcz Z5) + 0) (n9 + (jsz Z372 - jsz Z5) + 0)
  refine j_pop2 E dL_law_937 rfl ?_
  refine j_aload_n E dL_law_938 2 rfl ?_
  refine j_aload_n E dL_law_939 0 rfl ?_
  refine j_iload E dL_law_940 4 rfl ?_
  refine j_iconst E (v := 1) dL_law_942 (by decide) ?_
  refine j_iadd E dL_law_943 ?_
  obtain ⟨o381, h⟩ := h
  refine j_sld E hX.1 hX.2.1 hX.2.2 o381 dL_law_944 ?_
  refine j_aload_n E dL_law_945 0 rfl ?_
  refine j_iload E dL_law_946 4 rfl ?_
  refine j_iconst E (v := 2) dL_law_948 (by decide) ?_
  refine j_iadd E dL_law_949 ?_
  obtain ⟨o382, h⟩ := h
  refine j_sld E hX.1 hX.2.1 hX.2.2 o382 dL_law_950 ?_
  refine ju_callV E [.int (xs (v4 + (1 : Int32)).toNatClampNeg), .int (xs (v4 + (2 : Int32)).toNatClampNeg)] [] (c_X12_ways (gL G) (gD G) (gY G) B v2 (xs (v4 + (1 : Int32)).toNatClampNeg) (xs (v4 + (2 : Int32)).toNatClampNeg) Z372 I373 L374 _ hZ hb k379 h) (gwV W_1365 W_1366 W_1367 W_695 W_1364) rfl ⟨rfl, fy_X12_ways⟩ ⟨by decide, by decide⟩ (c := 12) rfl (by decide) k379 rfl rfl (Nat.le_of_ble_eq_true rfl) ⟨by show k9 + (jcz Z372 - jcz Z5) + 0 + (B.1 - jcz Z372) ≤ 601024; have := hb.1; have := hc.1; omega, by show n9 + (jsz Z372 - jsz Z5) + 0 + (B.2 - jsz Z372) ≤ 7293034; have := hb.2; have := hc.2; omega⟩ dL_law_951 (fun v383 Z384 I385 L386 q387 j388 => ?_)
  refine j_kn (k' := k9 + (jcz Z384 - jcz Z5) + 0) (n' := n9 + (jsz Z384 - jsz Z5) + 0) (by have := hc.1; have := j388.1; omega) (by have := hc.2; have := j388.2; omega) ?_
  have hc := jle_trans hc j388
  obtain ⟨yZ384, hZ384, hbZ384, r389, rfl, h⟩ := q387
  have hZ := hZ384
  have hx : jext Z0 Z384 := jext_trans hx yZ384
  have hb := hbZ384
  have k390 := (yZ384 _ _ k378).1
  have k391 := (yZ384 _ _ k379).1
  have k392 := (yZ384 _ _ k380).1
  show jJ G 8 954 [(0, .ref b), (1, .ref v1), (2, .ref v2), (3, .ref v3), (4, .int v4)] [.long r389] Z384 I385 L386 (k9 + (jcz Z384 - jcz Z5) + 0) (n9 + (jsz Z384 - jsz Z5) + 0)
  refine j_pop2 E dL_law_954 rfl ?_
  refine j_goto E 1732 dL_law_955 (by decide) ?_
  refine j_sub [0, 1, 2, 3, 4] rfl ?_
  refine j_widen (k9 := k9 + (jcz Z384 - jcz Z5) + 27) (n9 := n9 + (jsz Z384 - jsz Z5) + 600) (by show k9 + (jcz Z384 - jcz Z5) + 0 ≤ _; omega) (by show n9 + (jsz Z384 - jsz Z5) + 0 ≤ _; omega) ?_
  exact m_L_law_b1732 E hX hV hU hl0 hb9 hn9 K23 hK23 v1 v2 v3 v4 Z384 I385 L386 hZ hx hc hb k390 k391 k392 h
set_option maxRecDepth 100000 in
def f_L_law_b958 (xs : Nat → Int32) (Ls : Nat) (B : Nat × Nat) (K23 : Nat → Nat → Nat → Int32 → jZ → jI → jL → Prop) (v1 : Nat) (v2 : Nat) (v3 : Nat) (v4 : Int32) (Z : jZ) (I : jI) (L : jL) : Prop := (vp_in (v4 + (1 : Int32)) Ls ∧ (vp_in (v4 + (2 : Int32)) Ls ∧ (vp_in (v4 + (3 : Int32)) Ls ∧ (f_X11_trod B v1 (xs (v4 + (1 : Int32)).toNatClampNeg) (xs (v4 + (2 : Int32)).toNatClampNeg) (xs (v4 + (3 : Int32)).toNatClampNeg) Z I L (fun r402 Z397 I398 L399 => (vp_in (v4 + (1 : Int32)) Ls ∧ (vp_in (v4 + (2 : Int32)) Ls ∧ (vp_in (v4 + (3 : Int32)) Ls ∧ (f_X12_trod B v2 (xs (v4 + (1 : Int32)).toNatClampNeg) (xs (v4 + (2 : Int32)).toNatClampNeg) (xs (v4 + (3 : Int32)).toNatClampNeg) Z397 I398 L399 (fun r415 Z410 I411 L412 => f_L_law_b1732 xs Ls B K23 v1 v2 v3 v4 Z410 I411 L412))))))))))
set_option maxHeartbeats 4000000 in
set_option maxRecDepth 100000 in
theorem m_L_law_b958 {G : jG} {Z0 : jZ} {xs : Nat → Int32} {Ls b k9 n9 sa sb : Nat} {B : Nat × Nat} {Z5 : jZ} (E : jE G cL_law RL (Cond.arrayClass .byte :: jT) 8 (some .boolean) room_1 jRL) (hX : va_X b Ls xs (gS G) (gS G).heap ∧ b < (gS G).heap.size ∧ ¬ gA G b) (hV : jV (gA G) (gS G) (gS G).heap) (hU : jU sa sb (gA G) (gS G) (gS G).heap) (hl0 : (gL G).stackTraces = false) (hb9 : k9 + 27 + (B.1 - jcz Z5) ≤ 601024) (hn9 : n9 + 600 + (B.2 - jsz Z5) ≤ 7293034) (K23 : Nat → Nat → Nat → Int32 → jZ → jI → jL → Prop) (hK23 : ∀ (v1 : Nat) (v2 : Nat) (v3 : Nat) (v4 : Int32) (Z : jZ) (I : jI) (L : jL), SH Z → jext Z0 Z → jle Z5 Z → jin B Z → jk Z v1 11 → jk Z v2 12 → jk Z v3 15 → K23 v1 v2 v3 v4 Z I L → jJ G 8 23 [(0, .ref b), (1, .ref v1), (2, .ref v2), (3, .ref v3), (4, .int v4)] [] Z I L (k9 + (jcz Z - jcz Z5) + 27) (n9 + (jsz Z - jsz Z5) + 600)) (v1 : Nat) (v2 : Nat) (v3 : Nat) (v4 : Int32) (Z : jZ) (I : jI) (L : jL) (hZ : SH Z) (hx : jext Z0 Z) (hc : jle Z5 Z) (hb : jin B Z) (kv1 : jk Z v1 11) (kv2 : jk Z v2 12) (kv3 : jk Z v3 15) (h : f_L_law_b958 xs Ls B K23 v1 v2 v3 v4 Z I L) : jJ G 8 958 [(0, .ref b), (1, .ref v1), (2, .ref v2), (3, .ref v3), (4, .int v4)] [] Z I L (k9 + (jcz Z - jcz Z5) + 0) (n9 + (jsz Z - jsz Z5) + 0) := by
  unfold f_L_law_b958 at h
  refine j_aload_n E dL_law_958 1 rfl ?_
  refine j_aload_n E dL_law_959 0 rfl ?_
  refine j_iload E dL_law_960 4 rfl ?_
  refine j_iconst E (v := 1) dL_law_962 (by decide) ?_
  refine j_iadd E dL_law_963 ?_
  obtain ⟨o393, h⟩ := h
  refine j_sld E hX.1 hX.2.1 hX.2.2 o393 dL_law_964 ?_
  refine j_aload_n E dL_law_965 0 rfl ?_
  refine j_iload E dL_law_966 4 rfl ?_
  refine j_iconst E (v := 2) dL_law_968 (by decide) ?_
  refine j_iadd E dL_law_969 ?_
  obtain ⟨o394, h⟩ := h
  refine j_sld E hX.1 hX.2.1 hX.2.2 o394 dL_law_970 ?_
  refine j_aload_n E dL_law_971 0 rfl ?_
  refine j_iload E dL_law_972 4 rfl ?_
  refine j_iconst E (v := 3) dL_law_974 (by decide) ?_
  refine j_iadd E dL_law_975 ?_
  obtain ⟨o395, h⟩ := h
  refine j_sld E hX.1 hX.2.1 hX.2.2 o395 dL_law_976 ?_
  refine ju_callV E [.int (xs (v4 + (1 : Int32)).toNatClampNeg), .int (xs (v4 + (2 : Int32)).toNatClampNeg), .int (xs (v4 + (3 : Int32)).toNatClampNeg)] [] (c_X11_trod (gL G) (gD G) (gY G) B v1 (xs (v4 + (1 : Int32)).toNatClampNeg) (xs (v4 + (2 : Int32)).toNatClampNeg) (xs (v4 + (3 : Int32)).toNatClampNeg) Z I L _ hZ hb kv1 h) (gwV W_1369 W_1370 W_1371 W_40 W_1368) rfl ⟨rfl, fy_X11_trod⟩ ⟨by decide, by decide⟩ (c := 11) rfl (by decide) kv1 rfl rfl (Nat.le_of_ble_eq_true rfl) ⟨by show k9 + (jcz Z - jcz Z5) + 0 + (B.1 - jcz Z) ≤ 601024; have := hb.1; have := hc.1; omega, by show n9 + (jsz Z - jsz Z5) + 0 + (B.2 - jsz Z) ≤ 7293034; have := hb.2; have := hc.2; omega⟩ dL_law_977 (fun v396 Z397 I398 L399 q400 j401 => ?_)
  refine j_kn (k' := k9 + (jcz Z397 - jcz Z5) + 0) (n' := n9 + (jsz Z397 - jsz Z5) + 0) (by have := hc.1; have := j401.1; omega) (by have := hc.2; have := j401.2; omega) ?_
  have hc := jle_trans hc j401
  obtain ⟨yZ397, hZ397, hbZ397, r402, rfl, h⟩ := q400
  have hZ := hZ397
  have hx : jext Z0 Z397 := jext_trans hx yZ397
  have hb := hbZ397
  have k403 := (yZ397 _ _ kv1).1
  have k404 := (yZ397 _ _ kv2).1
  have k405 := (yZ397 _ _ kv3).1
  show jJ G 8 980 [(0, .ref b), (1, .ref v1), (2, .ref v2), (3, .ref v3), (4, .int v4)] [.int r402] Z397 I398 L399 (k9 + (jcz Z397 - jcz Z5) + 0) (n9 + (jsz Z397 - jsz Z5) + 0)
  refine j_pop E dL_law_980 rfl ?_
  refine j_aload_n E dL_law_981 2 rfl ?_
  refine j_aload_n E dL_law_982 0 rfl ?_
  refine j_iload E dL_law_983 4 rfl ?_
  refine j_iconst E (v := 1) dL_law_985 (by decide) ?_
  refine j_iadd E dL_law_986 ?_
  obtain ⟨o406, h⟩ := h
  refine j_sld E hX.1 hX.2.1 hX.2.2 o406 dL_law_987 ?_
  refine j_aload_n E dL_law_988 0 rfl ?_
  refine j_iload E dL_law_989 4 rfl ?_
  refine j_iconst E (v := 2) dL_law_991 (by decide) ?_
  refine j_iadd E dL_law_992 ?_
  obtain ⟨o407, h⟩ := h
  refine j_sld E hX.1 hX.2.1 hX.2.2 o407 dL_law_993 ?_
  refine j_aload_n E dL_law_994 0 rfl ?_
  refine j_iload E dL_law_995 4 rfl ?_
  refine j_iconst E (v := 3) dL_law_997 (by decide) ?_
  refine j_iadd E dL_law_998 ?_
  obtain ⟨o408, h⟩ := h
  refine j_sld E hX.1 hX.2.1 hX.2.2 o408 dL_law_999 ?_
  refine ju_callV E [.int (xs (v4 + (1 : Int32)).toNatClampNeg), .int (xs (v4 + (2 : Int32)).toNatClampNeg), .int (xs (v4 + (3 : Int32)).toNatClampNeg)] [] (c_X12_trod (gL G) (gD G) (gY G) B v2 (xs (v4 + (1 : Int32)).toNatClampNeg) (xs (v4 + (2 : Int32)).toNatClampNeg) (xs (v4 + (3 : Int32)).toNatClampNeg) Z397 I398 L399 _ hZ hb k404 h) (gwV W_1373 W_1374 W_1375 W_695 W_1372) rfl ⟨rfl, fy_X12_trod⟩ ⟨by decide, by decide⟩ (c := 12) rfl (by decide) k404 rfl rfl (Nat.le_of_ble_eq_true rfl) ⟨by show k9 + (jcz Z397 - jcz Z5) + 0 + (B.1 - jcz Z397) ≤ 601024; have := hb.1; have := hc.1; omega, by show n9 + (jsz Z397 - jsz Z5) + 0 + (B.2 - jsz Z397) ≤ 7293034; have := hb.2; have := hc.2; omega⟩ dL_law_1000 (fun v409 Z410 I411 L412 q413 j414 => ?_)
  refine j_kn (k' := k9 + (jcz Z410 - jcz Z5) + 0) (n' := n9 + (jsz Z410 - jsz Z5) + 0) (by have := hc.1; have := j414.1; omega) (by have := hc.2; have := j414.2; omega) ?_
  have hc := jle_trans hc j414
  obtain ⟨yZ410, hZ410, hbZ410, r415, rfl, h⟩ := q413
  have hZ := hZ410
  have hx : jext Z0 Z410 := jext_trans hx yZ410
  have hb := hbZ410
  have k416 := (yZ410 _ _ k403).1
  have k417 := (yZ410 _ _ k404).1
  have k418 := (yZ410 _ _ k405).1
  show jJ G 8 1003 [(0, .ref b), (1, .ref v1), (2, .ref v2), (3, .ref v3), (4, .int v4)] [.int r415] Z410 I411 L412 (k9 + (jcz Z410 - jcz Z5) + 0) (n9 + (jsz Z410 - jsz Z5) + 0)
  refine j_pop E dL_law_1003 rfl ?_
  refine j_goto E 1732 dL_law_1004 (by decide) ?_
  refine j_sub [0, 1, 2, 3, 4] rfl ?_
  refine j_widen (k9 := k9 + (jcz Z410 - jcz Z5) + 27) (n9 := n9 + (jsz Z410 - jsz Z5) + 600) (by show k9 + (jcz Z410 - jcz Z5) + 0 ≤ _; omega) (by show n9 + (jsz Z410 - jsz Z5) + 0 ≤ _; omega) ?_
  exact m_L_law_b1732 E hX hV hU hl0 hb9 hn9 K23 hK23 v1 v2 v3 v4 Z410 I411 L412 hZ hx hc hb k416 k417 k418 h
set_option maxRecDepth 100000 in
def f_L_law_b1007 (xs : Nat → Int32) (Ls : Nat) (B : Nat × Nat) (K23 : Nat → Nat → Nat → Int32 → jZ → jI → jL → Prop) (v1 : Nat) (v2 : Nat) (v3 : Nat) (v4 : Int32) (Z : jZ) (I : jI) (L : jL) : Prop := (vp_in (v4 + (1 : Int32)) Ls ∧ (vp_in (v4 + (2 : Int32)) Ls ∧ (f_X11_who B v1 (xs (v4 + (1 : Int32)).toNatClampNeg) (xs (v4 + (2 : Int32)).toNatClampNeg) Z I L (fun r427 Z422 I423 L424 => (vp_in (v4 + (1 : Int32)) Ls ∧ (vp_in (v4 + (2 : Int32)) Ls ∧ (f_X12_who B v2 (xs (v4 + (1 : Int32)).toNatClampNeg) (xs (v4 + (2 : Int32)).toNatClampNeg) Z422 I423 L424 (fun r439 Z434 I435 L436 => ((r427 = r439 → f_L_law_b1732 xs Ls B K23 v1 v2 v3 v4 Z434 I435 L436) ∧ (¬ (r427 = r439) → False))))))))))
set_option maxHeartbeats 4000000 in
set_option maxRecDepth 100000 in
theorem m_L_law_b1007 {G : jG} {Z0 : jZ} {xs : Nat → Int32} {Ls b k9 n9 sa sb : Nat} {B : Nat × Nat} {Z5 : jZ} (E : jE G cL_law RL (Cond.arrayClass .byte :: jT) 8 (some .boolean) room_1 jRL) (hX : va_X b Ls xs (gS G) (gS G).heap ∧ b < (gS G).heap.size ∧ ¬ gA G b) (hV : jV (gA G) (gS G) (gS G).heap) (hU : jU sa sb (gA G) (gS G) (gS G).heap) (hl0 : (gL G).stackTraces = false) (hb9 : k9 + 27 + (B.1 - jcz Z5) ≤ 601024) (hn9 : n9 + 600 + (B.2 - jsz Z5) ≤ 7293034) (K23 : Nat → Nat → Nat → Int32 → jZ → jI → jL → Prop) (hK23 : ∀ (v1 : Nat) (v2 : Nat) (v3 : Nat) (v4 : Int32) (Z : jZ) (I : jI) (L : jL), SH Z → jext Z0 Z → jle Z5 Z → jin B Z → jk Z v1 11 → jk Z v2 12 → jk Z v3 15 → K23 v1 v2 v3 v4 Z I L → jJ G 8 23 [(0, .ref b), (1, .ref v1), (2, .ref v2), (3, .ref v3), (4, .int v4)] [] Z I L (k9 + (jcz Z - jcz Z5) + 27) (n9 + (jsz Z - jsz Z5) + 600)) (v1 : Nat) (v2 : Nat) (v3 : Nat) (v4 : Int32) (Z : jZ) (I : jI) (L : jL) (hZ : SH Z) (hx : jext Z0 Z) (hc : jle Z5 Z) (hb : jin B Z) (kv1 : jk Z v1 11) (kv2 : jk Z v2 12) (kv3 : jk Z v3 15) (h : f_L_law_b1007 xs Ls B K23 v1 v2 v3 v4 Z I L) : jJ G 8 1007 [(0, .ref b), (1, .ref v1), (2, .ref v2), (3, .ref v3), (4, .int v4)] [] Z I L (k9 + (jcz Z - jcz Z5) + 0) (n9 + (jsz Z - jsz Z5) + 0) := by
  unfold f_L_law_b1007 at h
  refine j_aload_n E dL_law_1007 1 rfl ?_
  refine j_aload_n E dL_law_1008 0 rfl ?_
  refine j_iload E dL_law_1009 4 rfl ?_
  refine j_iconst E (v := 1) dL_law_1011 (by decide) ?_
  refine j_iadd E dL_law_1012 ?_
  obtain ⟨o419, h⟩ := h
  refine j_sld E hX.1 hX.2.1 hX.2.2 o419 dL_law_1013 ?_
  refine j_aload_n E dL_law_1014 0 rfl ?_
  refine j_iload E dL_law_1015 4 rfl ?_
  refine j_iconst E (v := 2) dL_law_1017 (by decide) ?_
  refine j_iadd E dL_law_1018 ?_
  obtain ⟨o420, h⟩ := h
  refine j_sld E hX.1 hX.2.1 hX.2.2 o420 dL_law_1019 ?_
  refine ju_callV E [.int (xs (v4 + (1 : Int32)).toNatClampNeg), .int (xs (v4 + (2 : Int32)).toNatClampNeg)] [] (c_X11_who (gL G) (gD G) (gY G) B v1 (xs (v4 + (1 : Int32)).toNatClampNeg) (xs (v4 + (2 : Int32)).toNatClampNeg) Z I L _ hZ hb kv1 h) (gwV W_1377 W_1378 W_1379 W_40 W_1376) rfl ⟨rfl, fy_X11_who⟩ ⟨by decide, by decide⟩ (c := 11) rfl (by decide) kv1 rfl rfl (Nat.le_of_ble_eq_true rfl) ⟨by show k9 + (jcz Z - jcz Z5) + 0 + (B.1 - jcz Z) ≤ 601024; have := hb.1; have := hc.1; omega, by show n9 + (jsz Z - jsz Z5) + 0 + (B.2 - jsz Z) ≤ 7293034; have := hb.2; have := hc.2; omega⟩ dL_law_1020 (fun v421 Z422 I423 L424 q425 j426 => ?_)
  refine j_kn (k' := k9 + (jcz Z422 - jcz Z5) + 0) (n' := n9 + (jsz Z422 - jsz Z5) + 0) (by have := hc.1; have := j426.1; omega) (by have := hc.2; have := j426.2; omega) ?_
  have hc := jle_trans hc j426
  obtain ⟨yZ422, hZ422, hbZ422, r427, rfl, h⟩ := q425
  have hZ := hZ422
  have hx : jext Z0 Z422 := jext_trans hx yZ422
  have hb := hbZ422
  have k428 := (yZ422 _ _ kv1).1
  have k429 := (yZ422 _ _ kv2).1
  have k430 := (yZ422 _ _ kv3).1
  show jJ G 8 1023 [(0, .ref b), (1, .ref v1), (2, .ref v2), (3, .ref v3), (4, .int v4)] [.int r427] Z422 I423 L424 (k9 + (jcz Z422 - jcz Z5) + 0) (n9 + (jsz Z422 - jsz Z5) + 0)
  refine j_aload_n E dL_law_1023 2 rfl ?_
  refine j_aload_n E dL_law_1024 0 rfl ?_
  refine j_iload E dL_law_1025 4 rfl ?_
  refine j_iconst E (v := 1) dL_law_1027 (by decide) ?_
  refine j_iadd E dL_law_1028 ?_
  obtain ⟨o431, h⟩ := h
  refine j_sld E hX.1 hX.2.1 hX.2.2 o431 dL_law_1029 ?_
  refine j_aload_n E dL_law_1030 0 rfl ?_
  refine j_iload E dL_law_1031 4 rfl ?_
  refine j_iconst E (v := 2) dL_law_1033 (by decide) ?_
  refine j_iadd E dL_law_1034 ?_
  obtain ⟨o432, h⟩ := h
  refine j_sld E hX.1 hX.2.1 hX.2.2 o432 dL_law_1035 ?_
  refine ju_callV E [.int (xs (v4 + (1 : Int32)).toNatClampNeg), .int (xs (v4 + (2 : Int32)).toNatClampNeg)] [.int r427] (c_X12_who (gL G) (gD G) (gY G) B v2 (xs (v4 + (1 : Int32)).toNatClampNeg) (xs (v4 + (2 : Int32)).toNatClampNeg) Z422 I423 L424 _ hZ hb k429 h) (gwV W_1381 W_1382 W_1383 W_695 W_1380) rfl ⟨rfl, fy_X12_who⟩ ⟨by decide, by decide⟩ (c := 12) rfl (by decide) k429 rfl rfl (Nat.le_of_ble_eq_true rfl) ⟨by show k9 + (jcz Z422 - jcz Z5) + 0 + (B.1 - jcz Z422) ≤ 601024; have := hb.1; have := hc.1; omega, by show n9 + (jsz Z422 - jsz Z5) + 0 + (B.2 - jsz Z422) ≤ 7293034; have := hb.2; have := hc.2; omega⟩ dL_law_1036 (fun v433 Z434 I435 L436 q437 j438 => ?_)
  refine j_kn (k' := k9 + (jcz Z434 - jcz Z5) + 0) (n' := n9 + (jsz Z434 - jsz Z5) + 0) (by have := hc.1; have := j438.1; omega) (by have := hc.2; have := j438.2; omega) ?_
  have hc := jle_trans hc j438
  obtain ⟨yZ434, hZ434, hbZ434, r439, rfl, h⟩ := q437
  have hZ := hZ434
  have hx : jext Z0 Z434 := jext_trans hx yZ434
  have hb := hbZ434
  have k440 := (yZ434 _ _ k428).1
  have k441 := (yZ434 _ _ k429).1
  have k442 := (yZ434 _ _ k430).1
  show jJ G 8 1039 [(0, .ref b), (1, .ref v1), (2, .ref v2), (3, .ref v3), (4, .int v4)] [.int r439, .int r427] Z434 I435 L436 (k9 + (jcz Z434 - jcz Z5) + 0) (n9 + (jsz Z434 - jsz Z5) + 0)
  refine j_icmp_eq E 1732 dL_law_1039 (by decide) (fun c443 => ?_) (fun c443 => ?_)
  · have h := h.1 c443
    refine j_sub [0, 1, 2, 3, 4] rfl ?_
    refine j_widen (k9 := k9 + (jcz Z434 - jcz Z5) + 27) (n9 := n9 + (jsz Z434 - jsz Z5) + 600) (by show k9 + (jcz Z434 - jcz Z5) + 0 ≤ _; omega) (by show n9 + (jsz Z434 - jsz Z5) + 0 ≤ _; omega) ?_
    exact m_L_law_b1732 E hX hV hU hl0 hb9 hn9 K23 hK23 v1 v2 v3 v4 Z434 I435 L436 hZ hx hc hb k440 k441 k442 h
  · have h := h.2 c443
    refine j_iconst E (v := 0) dL_law_1042 (by decide) ?_
    exact h.elim
set_option maxRecDepth 100000 in
def f_L_law_b1044 (xs : Nat → Int32) (Ls : Nat) (B : Nat × Nat) (K23 : Nat → Nat → Nat → Int32 → jZ → jI → jL → Prop) (v1 : Nat) (v2 : Nat) (v3 : Nat) (v4 : Int32) (Z : jZ) (I : jI) (L : jL) : Prop := (vp_in (v4 + (1 : Int32)) Ls ∧ (vp_in (v4 + (2 : Int32)) Ls ∧ (f_X11_next B v1 (xs (v4 + (1 : Int32)).toNatClampNeg) (xs (v4 + (2 : Int32)).toNatClampNeg) Z I L (fun r452 Z447 I448 L449 => (vp_in (v4 + (1 : Int32)) Ls ∧ (vp_in (v4 + (2 : Int32)) Ls ∧ (f_X12_next B v2 (xs (v4 + (1 : Int32)).toNatClampNeg) (xs (v4 + (2 : Int32)).toNatClampNeg) Z447 I448 L449 (fun r464 Z459 I460 L461 => f_L_law_b1732 xs Ls B K23 v1 v2 v3 v4 Z459 I460 L461))))))))
set_option maxHeartbeats 4000000 in
set_option maxRecDepth 100000 in
theorem m_L_law_b1044 {G : jG} {Z0 : jZ} {xs : Nat → Int32} {Ls b k9 n9 sa sb : Nat} {B : Nat × Nat} {Z5 : jZ} (E : jE G cL_law RL (Cond.arrayClass .byte :: jT) 8 (some .boolean) room_1 jRL) (hX : va_X b Ls xs (gS G) (gS G).heap ∧ b < (gS G).heap.size ∧ ¬ gA G b) (hV : jV (gA G) (gS G) (gS G).heap) (hU : jU sa sb (gA G) (gS G) (gS G).heap) (hl0 : (gL G).stackTraces = false) (hb9 : k9 + 27 + (B.1 - jcz Z5) ≤ 601024) (hn9 : n9 + 600 + (B.2 - jsz Z5) ≤ 7293034) (K23 : Nat → Nat → Nat → Int32 → jZ → jI → jL → Prop) (hK23 : ∀ (v1 : Nat) (v2 : Nat) (v3 : Nat) (v4 : Int32) (Z : jZ) (I : jI) (L : jL), SH Z → jext Z0 Z → jle Z5 Z → jin B Z → jk Z v1 11 → jk Z v2 12 → jk Z v3 15 → K23 v1 v2 v3 v4 Z I L → jJ G 8 23 [(0, .ref b), (1, .ref v1), (2, .ref v2), (3, .ref v3), (4, .int v4)] [] Z I L (k9 + (jcz Z - jcz Z5) + 27) (n9 + (jsz Z - jsz Z5) + 600)) (v1 : Nat) (v2 : Nat) (v3 : Nat) (v4 : Int32) (Z : jZ) (I : jI) (L : jL) (hZ : SH Z) (hx : jext Z0 Z) (hc : jle Z5 Z) (hb : jin B Z) (kv1 : jk Z v1 11) (kv2 : jk Z v2 12) (kv3 : jk Z v3 15) (h : f_L_law_b1044 xs Ls B K23 v1 v2 v3 v4 Z I L) : jJ G 8 1044 [(0, .ref b), (1, .ref v1), (2, .ref v2), (3, .ref v3), (4, .int v4)] [] Z I L (k9 + (jcz Z - jcz Z5) + 0) (n9 + (jsz Z - jsz Z5) + 0) := by
  unfold f_L_law_b1044 at h
  refine j_aload_n E dL_law_1044 1 rfl ?_
  refine j_aload_n E dL_law_1045 0 rfl ?_
  refine j_iload E dL_law_1046 4 rfl ?_
  refine j_iconst E (v := 1) dL_law_1048 (by decide) ?_
  refine j_iadd E dL_law_1049 ?_
  obtain ⟨o444, h⟩ := h
  refine j_sld E hX.1 hX.2.1 hX.2.2 o444 dL_law_1050 ?_
  refine j_aload_n E dL_law_1051 0 rfl ?_
  refine j_iload E dL_law_1052 4 rfl ?_
  refine j_iconst E (v := 2) dL_law_1054 (by decide) ?_
  refine j_iadd E dL_law_1055 ?_
  obtain ⟨o445, h⟩ := h
  refine j_sld E hX.1 hX.2.1 hX.2.2 o445 dL_law_1056 ?_
  refine ju_callV E [.int (xs (v4 + (1 : Int32)).toNatClampNeg), .int (xs (v4 + (2 : Int32)).toNatClampNeg)] [] (c_X11_next (gL G) (gD G) (gY G) B v1 (xs (v4 + (1 : Int32)).toNatClampNeg) (xs (v4 + (2 : Int32)).toNatClampNeg) Z I L _ hZ hb kv1 h) (gwV W_1385 W_1386 W_1387 W_40 W_1384) rfl ⟨rfl, fy_X11_next⟩ ⟨by decide, by decide⟩ (c := 11) rfl (by decide) kv1 rfl rfl (Nat.le_of_ble_eq_true rfl) ⟨by show k9 + (jcz Z - jcz Z5) + 0 + (B.1 - jcz Z) ≤ 601024; have := hb.1; have := hc.1; omega, by show n9 + (jsz Z - jsz Z5) + 0 + (B.2 - jsz Z) ≤ 7293034; have := hb.2; have := hc.2; omega⟩ dL_law_1057 (fun v446 Z447 I448 L449 q450 j451 => ?_)
  refine j_kn (k' := k9 + (jcz Z447 - jcz Z5) + 0) (n' := n9 + (jsz Z447 - jsz Z5) + 0) (by have := hc.1; have := j451.1; omega) (by have := hc.2; have := j451.2; omega) ?_
  have hc := jle_trans hc j451
  obtain ⟨yZ447, hZ447, hbZ447, r452, rfl, h⟩ := q450
  have hZ := hZ447
  have hx : jext Z0 Z447 := jext_trans hx yZ447
  have hb := hbZ447
  have k453 := (yZ447 _ _ kv1).1
  have k454 := (yZ447 _ _ kv2).1
  have k455 := (yZ447 _ _ kv3).1
  show jJ G 8 1060 [(0, .ref b), (1, .ref v1), (2, .ref v2), (3, .ref v3), (4, .int v4)] [.int r452] Z447 I448 L449 (k9 + (jcz Z447 - jcz Z5) + 0) (n9 + (jsz Z447 - jsz Z5) + 0)
  refine j_pop E dL_law_1060 rfl ?_
  refine j_aload_n E dL_law_1061 2 rfl ?_
  refine j_aload_n E dL_law_1062 0 rfl ?_
  refine j_iload E dL_law_1063 4 rfl ?_
  refine j_iconst E (v := 1) dL_law_1065 (by decide) ?_
  refine j_iadd E dL_law_1066 ?_
  obtain ⟨o456, h⟩ := h
  refine j_sld E hX.1 hX.2.1 hX.2.2 o456 dL_law_1067 ?_
  refine j_aload_n E dL_law_1068 0 rfl ?_
  refine j_iload E dL_law_1069 4 rfl ?_
  refine j_iconst E (v := 2) dL_law_1071 (by decide) ?_
  refine j_iadd E dL_law_1072 ?_
  obtain ⟨o457, h⟩ := h
  refine j_sld E hX.1 hX.2.1 hX.2.2 o457 dL_law_1073 ?_
  refine ju_callV E [.int (xs (v4 + (1 : Int32)).toNatClampNeg), .int (xs (v4 + (2 : Int32)).toNatClampNeg)] [] (c_X12_next (gL G) (gD G) (gY G) B v2 (xs (v4 + (1 : Int32)).toNatClampNeg) (xs (v4 + (2 : Int32)).toNatClampNeg) Z447 I448 L449 _ hZ hb k454 h) (gwV W_1389 W_1390 W_1391 W_695 W_1388) rfl ⟨rfl, fy_X12_next⟩ ⟨by decide, by decide⟩ (c := 12) rfl (by decide) k454 rfl rfl (Nat.le_of_ble_eq_true rfl) ⟨by show k9 + (jcz Z447 - jcz Z5) + 0 + (B.1 - jcz Z447) ≤ 601024; have := hb.1; have := hc.1; omega, by show n9 + (jsz Z447 - jsz Z5) + 0 + (B.2 - jsz Z447) ≤ 7293034; have := hb.2; have := hc.2; omega⟩ dL_law_1074 (fun v458 Z459 I460 L461 q462 j463 => ?_)
  refine j_kn (k' := k9 + (jcz Z459 - jcz Z5) + 0) (n' := n9 + (jsz Z459 - jsz Z5) + 0) (by have := hc.1; have := j463.1; omega) (by have := hc.2; have := j463.2; omega) ?_
  have hc := jle_trans hc j463
  obtain ⟨yZ459, hZ459, hbZ459, r464, rfl, h⟩ := q462
  have hZ := hZ459
  have hx : jext Z0 Z459 := jext_trans hx yZ459
  have hb := hbZ459
  have k465 := (yZ459 _ _ k453).1
  have k466 := (yZ459 _ _ k454).1
  have k467 := (yZ459 _ _ k455).1
  show jJ G 8 1077 [(0, .ref b), (1, .ref v1), (2, .ref v2), (3, .ref v3), (4, .int v4)] [.int r464] Z459 I460 L461 (k9 + (jcz Z459 - jcz Z5) + 0) (n9 + (jsz Z459 - jsz Z5) + 0)
  refine j_pop E dL_law_1077 rfl ?_
  refine j_goto E 1732 dL_law_1078 (by decide) ?_
  refine j_sub [0, 1, 2, 3, 4] rfl ?_
  refine j_widen (k9 := k9 + (jcz Z459 - jcz Z5) + 27) (n9 := n9 + (jsz Z459 - jsz Z5) + 600) (by show k9 + (jcz Z459 - jcz Z5) + 0 ≤ _; omega) (by show n9 + (jsz Z459 - jsz Z5) + 0 ≤ _; omega) ?_
  exact m_L_law_b1732 E hX hV hU hl0 hb9 hn9 K23 hK23 v1 v2 v3 v4 Z459 I460 L461 hZ hx hc hb k465 k466 k467 h
set_option maxRecDepth 100000 in
def f_L_law_b1081 (xs : Nat → Int32) (Ls : Nat) (B : Nat × Nat) (K23 : Nat → Nat → Nat → Int32 → jZ → jI → jL → Prop) (v1 : Nat) (v2 : Nat) (v3 : Nat) (v4 : Int32) (Z : jZ) (I : jI) (L : jL) : Prop := (vp_in (v4 + (1 : Int32)) Ls ∧ (f_X11_bears B v1 (xs (v4 + (1 : Int32)).toNatClampNeg) Z I L (fun r475 Z470 I471 L472 => (vp_in (v4 + (1 : Int32)) Ls ∧ (f_X12_bears B v2 (xs (v4 + (1 : Int32)).toNatClampNeg) Z470 I471 L472 (fun r486 Z481 I482 L483 => f_L_law_b1732 xs Ls B K23 v1 v2 v3 v4 Z481 I482 L483))))))
set_option maxHeartbeats 4000000 in
set_option maxRecDepth 100000 in
theorem m_L_law_b1081 {G : jG} {Z0 : jZ} {xs : Nat → Int32} {Ls b k9 n9 sa sb : Nat} {B : Nat × Nat} {Z5 : jZ} (E : jE G cL_law RL (Cond.arrayClass .byte :: jT) 8 (some .boolean) room_1 jRL) (hX : va_X b Ls xs (gS G) (gS G).heap ∧ b < (gS G).heap.size ∧ ¬ gA G b) (hV : jV (gA G) (gS G) (gS G).heap) (hU : jU sa sb (gA G) (gS G) (gS G).heap) (hl0 : (gL G).stackTraces = false) (hb9 : k9 + 27 + (B.1 - jcz Z5) ≤ 601024) (hn9 : n9 + 600 + (B.2 - jsz Z5) ≤ 7293034) (K23 : Nat → Nat → Nat → Int32 → jZ → jI → jL → Prop) (hK23 : ∀ (v1 : Nat) (v2 : Nat) (v3 : Nat) (v4 : Int32) (Z : jZ) (I : jI) (L : jL), SH Z → jext Z0 Z → jle Z5 Z → jin B Z → jk Z v1 11 → jk Z v2 12 → jk Z v3 15 → K23 v1 v2 v3 v4 Z I L → jJ G 8 23 [(0, .ref b), (1, .ref v1), (2, .ref v2), (3, .ref v3), (4, .int v4)] [] Z I L (k9 + (jcz Z - jcz Z5) + 27) (n9 + (jsz Z - jsz Z5) + 600)) (v1 : Nat) (v2 : Nat) (v3 : Nat) (v4 : Int32) (Z : jZ) (I : jI) (L : jL) (hZ : SH Z) (hx : jext Z0 Z) (hc : jle Z5 Z) (hb : jin B Z) (kv1 : jk Z v1 11) (kv2 : jk Z v2 12) (kv3 : jk Z v3 15) (h : f_L_law_b1081 xs Ls B K23 v1 v2 v3 v4 Z I L) : jJ G 8 1081 [(0, .ref b), (1, .ref v1), (2, .ref v2), (3, .ref v3), (4, .int v4)] [] Z I L (k9 + (jcz Z - jcz Z5) + 0) (n9 + (jsz Z - jsz Z5) + 0) := by
  unfold f_L_law_b1081 at h
  refine j_aload_n E dL_law_1081 1 rfl ?_
  refine j_aload_n E dL_law_1082 0 rfl ?_
  refine j_iload E dL_law_1083 4 rfl ?_
  refine j_iconst E (v := 1) dL_law_1085 (by decide) ?_
  refine j_iadd E dL_law_1086 ?_
  obtain ⟨o468, h⟩ := h
  refine j_sld E hX.1 hX.2.1 hX.2.2 o468 dL_law_1087 ?_
  refine ju_callV E [.int (xs (v4 + (1 : Int32)).toNatClampNeg)] [] (c_X11_bears (gL G) (gD G) (gY G) B v1 (xs (v4 + (1 : Int32)).toNatClampNeg) Z I L _ hZ hb kv1 h) (gwV W_1393 W_1394 W_1395 W_40 W_1392) rfl ⟨rfl, fy_X11_bears⟩ ⟨by decide, by decide⟩ (c := 11) rfl (by decide) kv1 rfl rfl (Nat.le_of_ble_eq_true rfl) ⟨by show k9 + (jcz Z - jcz Z5) + 0 + (B.1 - jcz Z) ≤ 601024; have := hb.1; have := hc.1; omega, by show n9 + (jsz Z - jsz Z5) + 0 + (B.2 - jsz Z) ≤ 7293034; have := hb.2; have := hc.2; omega⟩ dL_law_1088 (fun v469 Z470 I471 L472 q473 j474 => ?_)
  refine j_kn (k' := k9 + (jcz Z470 - jcz Z5) + 0) (n' := n9 + (jsz Z470 - jsz Z5) + 0) (by have := hc.1; have := j474.1; omega) (by have := hc.2; have := j474.2; omega) ?_
  have hc := jle_trans hc j474
  obtain ⟨yZ470, hZ470, hbZ470, r475, rfl, h⟩ := q473
  have hZ := hZ470
  have hx : jext Z0 Z470 := jext_trans hx yZ470
  have hb := hbZ470
  have k476 := (yZ470 _ _ kv1).1
  have k477 := (yZ470 _ _ kv2).1
  have k478 := (yZ470 _ _ kv3).1
  show jJ G 8 1091 [(0, .ref b), (1, .ref v1), (2, .ref v2), (3, .ref v3), (4, .int v4)] [.int r475] Z470 I471 L472 (k9 + (jcz Z470 - jcz Z5) + 0) (n9 + (jsz Z470 - jsz Z5) + 0)
  refine j_pop E dL_law_1091 rfl ?_
  refine j_aload_n E dL_law_1092 2 rfl ?_
  refine j_aload_n E dL_law_1093 0 rfl ?_
  refine j_iload E dL_law_1094 4 rfl ?_
  refine j_iconst E (v := 1) dL_law_1096 (by decide) ?_
  refine j_iadd E dL_law_1097 ?_
  obtain ⟨o479, h⟩ := h
  refine j_sld E hX.1 hX.2.1 hX.2.2 o479 dL_law_1098 ?_
  refine ju_callV E [.int (xs (v4 + (1 : Int32)).toNatClampNeg)] [] (c_X12_bears (gL G) (gD G) (gY G) B v2 (xs (v4 + (1 : Int32)).toNatClampNeg) Z470 I471 L472 _ hZ hb k477 h) (gwV W_1397 W_1398 W_1399 W_695 W_1396) rfl ⟨rfl, fy_X12_bears⟩ ⟨by decide, by decide⟩ (c := 12) rfl (by decide) k477 rfl rfl (Nat.le_of_ble_eq_true rfl) ⟨by show k9 + (jcz Z470 - jcz Z5) + 0 + (B.1 - jcz Z470) ≤ 601024; have := hb.1; have := hc.1; omega, by show n9 + (jsz Z470 - jsz Z5) + 0 + (B.2 - jsz Z470) ≤ 7293034; have := hb.2; have := hc.2; omega⟩ dL_law_1099 (fun v480 Z481 I482 L483 q484 j485 => ?_)
  refine j_kn (k' := k9 + (jcz Z481 - jcz Z5) + 0) (n' := n9 + (jsz Z481 - jsz Z5) + 0) (by have := hc.1; have := j485.1; omega) (by have := hc.2; have := j485.2; omega) ?_
  have hc := jle_trans hc j485
  obtain ⟨yZ481, hZ481, hbZ481, r486, rfl, h⟩ := q484
  have hZ := hZ481
  have hx : jext Z0 Z481 := jext_trans hx yZ481
  have hb := hbZ481
  have k487 := (yZ481 _ _ k476).1
  have k488 := (yZ481 _ _ k477).1
  have k489 := (yZ481 _ _ k478).1
  show jJ G 8 1102 [(0, .ref b), (1, .ref v1), (2, .ref v2), (3, .ref v3), (4, .int v4)] [.int r486] Z481 I482 L483 (k9 + (jcz Z481 - jcz Z5) + 0) (n9 + (jsz Z481 - jsz Z5) + 0)
  refine j_pop E dL_law_1102 rfl ?_
  refine j_goto E 1732 dL_law_1103 (by decide) ?_
  refine j_sub [0, 1, 2, 3, 4] rfl ?_
  refine j_widen (k9 := k9 + (jcz Z481 - jcz Z5) + 27) (n9 := n9 + (jsz Z481 - jsz Z5) + 600) (by show k9 + (jcz Z481 - jcz Z5) + 0 ≤ _; omega) (by show n9 + (jsz Z481 - jsz Z5) + 0 ≤ _; omega) ?_
  exact m_L_law_b1732 E hX hV hU hl0 hb9 hn9 K23 hK23 v1 v2 v3 v4 Z481 I482 L483 hZ hx hc hb k487 k488 k489 h
set_option maxRecDepth 100000 in
def f_L_law_b1106 (xs : Nat → Int32) (Ls : Nat) (B : Nat × Nat) (K23 : Nat → Nat → Nat → Int32 → jZ → jI → jL → Prop) (v1 : Nat) (v2 : Nat) (v3 : Nat) (v4 : Int32) (Z : jZ) (I : jI) (L : jL) : Prop := (vp_in (v4 + (1 : Int32)) Ls ∧ (f_X11_breaks B v1 (xs (v4 + (1 : Int32)).toNatClampNeg) Z I L (fun r497 Z492 I493 L494 => (vp_in (v4 + (1 : Int32)) Ls ∧ (f_X12_breaks B v2 (xs (v4 + (1 : Int32)).toNatClampNeg) Z492 I493 L494 (fun r508 Z503 I504 L505 => f_L_law_b1732 xs Ls B K23 v1 v2 v3 v4 Z503 I504 L505))))))
set_option maxHeartbeats 4000000 in
set_option maxRecDepth 100000 in
theorem m_L_law_b1106 {G : jG} {Z0 : jZ} {xs : Nat → Int32} {Ls b k9 n9 sa sb : Nat} {B : Nat × Nat} {Z5 : jZ} (E : jE G cL_law RL (Cond.arrayClass .byte :: jT) 8 (some .boolean) room_1 jRL) (hX : va_X b Ls xs (gS G) (gS G).heap ∧ b < (gS G).heap.size ∧ ¬ gA G b) (hV : jV (gA G) (gS G) (gS G).heap) (hU : jU sa sb (gA G) (gS G) (gS G).heap) (hl0 : (gL G).stackTraces = false) (hb9 : k9 + 27 + (B.1 - jcz Z5) ≤ 601024) (hn9 : n9 + 600 + (B.2 - jsz Z5) ≤ 7293034) (K23 : Nat → Nat → Nat → Int32 → jZ → jI → jL → Prop) (hK23 : ∀ (v1 : Nat) (v2 : Nat) (v3 : Nat) (v4 : Int32) (Z : jZ) (I : jI) (L : jL), SH Z → jext Z0 Z → jle Z5 Z → jin B Z → jk Z v1 11 → jk Z v2 12 → jk Z v3 15 → K23 v1 v2 v3 v4 Z I L → jJ G 8 23 [(0, .ref b), (1, .ref v1), (2, .ref v2), (3, .ref v3), (4, .int v4)] [] Z I L (k9 + (jcz Z - jcz Z5) + 27) (n9 + (jsz Z - jsz Z5) + 600)) (v1 : Nat) (v2 : Nat) (v3 : Nat) (v4 : Int32) (Z : jZ) (I : jI) (L : jL) (hZ : SH Z) (hx : jext Z0 Z) (hc : jle Z5 Z) (hb : jin B Z) (kv1 : jk Z v1 11) (kv2 : jk Z v2 12) (kv3 : jk Z v3 15) (h : f_L_law_b1106 xs Ls B K23 v1 v2 v3 v4 Z I L) : jJ G 8 1106 [(0, .ref b), (1, .ref v1), (2, .ref v2), (3, .ref v3), (4, .int v4)] [] Z I L (k9 + (jcz Z - jcz Z5) + 0) (n9 + (jsz Z - jsz Z5) + 0) := by
  unfold f_L_law_b1106 at h
  refine j_aload_n E dL_law_1106 1 rfl ?_
  refine j_aload_n E dL_law_1107 0 rfl ?_
  refine j_iload E dL_law_1108 4 rfl ?_
  refine j_iconst E (v := 1) dL_law_1110 (by decide) ?_
  refine j_iadd E dL_law_1111 ?_
  obtain ⟨o490, h⟩ := h
  refine j_sld E hX.1 hX.2.1 hX.2.2 o490 dL_law_1112 ?_
  refine ju_callV E [.int (xs (v4 + (1 : Int32)).toNatClampNeg)] [] (c_X11_breaks (gL G) (gD G) (gY G) B v1 (xs (v4 + (1 : Int32)).toNatClampNeg) Z I L _ hZ hb kv1 h) (gwV W_1401 W_1402 W_1403 W_40 W_1400) rfl ⟨rfl, fy_X11_breaks⟩ ⟨by decide, by decide⟩ (c := 11) rfl (by decide) kv1 rfl rfl (Nat.le_of_ble_eq_true rfl) ⟨by show k9 + (jcz Z - jcz Z5) + 0 + (B.1 - jcz Z) ≤ 601024; have := hb.1; have := hc.1; omega, by show n9 + (jsz Z - jsz Z5) + 0 + (B.2 - jsz Z) ≤ 7293034; have := hb.2; have := hc.2; omega⟩ dL_law_1113 (fun v491 Z492 I493 L494 q495 j496 => ?_)
  refine j_kn (k' := k9 + (jcz Z492 - jcz Z5) + 0) (n' := n9 + (jsz Z492 - jsz Z5) + 0) (by have := hc.1; have := j496.1; omega) (by have := hc.2; have := j496.2; omega) ?_
  have hc := jle_trans hc j496
  obtain ⟨yZ492, hZ492, hbZ492, r497, rfl, h⟩ := q495
  have hZ := hZ492
  have hx : jext Z0 Z492 := jext_trans hx yZ492
  have hb := hbZ492
  have k498 := (yZ492 _ _ kv1).1
  have k499 := (yZ492 _ _ kv2).1
  have k500 := (yZ492 _ _ kv3).1
  show jJ G 8 1116 [(0, .ref b), (1, .ref v1), (2, .ref v2), (3, .ref v3), (4, .int v4)] [.int r497] Z492 I493 L494 (k9 + (jcz Z492 - jcz Z5) + 0) (n9 + (jsz Z492 - jsz Z5) + 0)
  refine j_pop E dL_law_1116 rfl ?_
  refine j_aload_n E dL_law_1117 2 rfl ?_
  refine j_aload_n E dL_law_1118 0 rfl ?_
  refine j_iload E dL_law_1119 4 rfl ?_
  refine j_iconst E (v := 1) dL_law_1121 (by decide) ?_
  refine j_iadd E dL_law_1122 ?_
  obtain ⟨o501, h⟩ := h
  refine j_sld E hX.1 hX.2.1 hX.2.2 o501 dL_law_1123 ?_
  refine ju_callV E [.int (xs (v4 + (1 : Int32)).toNatClampNeg)] [] (c_X12_breaks (gL G) (gD G) (gY G) B v2 (xs (v4 + (1 : Int32)).toNatClampNeg) Z492 I493 L494 _ hZ hb k499 h) (gwV W_1405 W_1406 W_1407 W_695 W_1404) rfl ⟨rfl, fy_X12_breaks⟩ ⟨by decide, by decide⟩ (c := 12) rfl (by decide) k499 rfl rfl (Nat.le_of_ble_eq_true rfl) ⟨by show k9 + (jcz Z492 - jcz Z5) + 0 + (B.1 - jcz Z492) ≤ 601024; have := hb.1; have := hc.1; omega, by show n9 + (jsz Z492 - jsz Z5) + 0 + (B.2 - jsz Z492) ≤ 7293034; have := hb.2; have := hc.2; omega⟩ dL_law_1124 (fun v502 Z503 I504 L505 q506 j507 => ?_)
  refine j_kn (k' := k9 + (jcz Z503 - jcz Z5) + 0) (n' := n9 + (jsz Z503 - jsz Z5) + 0) (by have := hc.1; have := j507.1; omega) (by have := hc.2; have := j507.2; omega) ?_
  have hc := jle_trans hc j507
  obtain ⟨yZ503, hZ503, hbZ503, r508, rfl, h⟩ := q506
  have hZ := hZ503
  have hx : jext Z0 Z503 := jext_trans hx yZ503
  have hb := hbZ503
  have k509 := (yZ503 _ _ k498).1
  have k510 := (yZ503 _ _ k499).1
  have k511 := (yZ503 _ _ k500).1
  show jJ G 8 1127 [(0, .ref b), (1, .ref v1), (2, .ref v2), (3, .ref v3), (4, .int v4)] [.int r508] Z503 I504 L505 (k9 + (jcz Z503 - jcz Z5) + 0) (n9 + (jsz Z503 - jsz Z5) + 0)
  refine j_pop E dL_law_1127 rfl ?_
  refine j_goto E 1732 dL_law_1128 (by decide) ?_
  refine j_sub [0, 1, 2, 3, 4] rfl ?_
  refine j_widen (k9 := k9 + (jcz Z503 - jcz Z5) + 27) (n9 := n9 + (jsz Z503 - jsz Z5) + 600) (by show k9 + (jcz Z503 - jcz Z5) + 0 ≤ _; omega) (by show n9 + (jsz Z503 - jsz Z5) + 0 ≤ _; omega) ?_
  exact m_L_law_b1732 E hX hV hU hl0 hb9 hn9 K23 hK23 v1 v2 v3 v4 Z503 I504 L505 hZ hx hc hb k509 k510 k511 h
set_option maxRecDepth 100000 in
def f_L_law_b1131 (xs : Nat → Int32) (Ls : Nat) (B : Nat × Nat) (K23 : Nat → Nat → Nat → Int32 → jZ → jI → jL → Prop) (v1 : Nat) (v2 : Nat) (v3 : Nat) (v4 : Int32) (Z : jZ) (I : jI) (L : jL) : Prop := (f_X11_all B v1 Z I L (fun r518 Z513 I514 L515 => (f_X12_all B v2 Z513 I514 L515 (fun r528 Z523 I524 L525 => f_L_law_b1732 xs Ls B K23 v1 v2 v3 v4 Z523 I524 L525))))
set_option maxHeartbeats 4000000 in
set_option maxRecDepth 100000 in
theorem m_L_law_b1131 {G : jG} {Z0 : jZ} {xs : Nat → Int32} {Ls b k9 n9 sa sb : Nat} {B : Nat × Nat} {Z5 : jZ} (E : jE G cL_law RL (Cond.arrayClass .byte :: jT) 8 (some .boolean) room_1 jRL) (hX : va_X b Ls xs (gS G) (gS G).heap ∧ b < (gS G).heap.size ∧ ¬ gA G b) (hV : jV (gA G) (gS G) (gS G).heap) (hU : jU sa sb (gA G) (gS G) (gS G).heap) (hl0 : (gL G).stackTraces = false) (hb9 : k9 + 27 + (B.1 - jcz Z5) ≤ 601024) (hn9 : n9 + 600 + (B.2 - jsz Z5) ≤ 7293034) (K23 : Nat → Nat → Nat → Int32 → jZ → jI → jL → Prop) (hK23 : ∀ (v1 : Nat) (v2 : Nat) (v3 : Nat) (v4 : Int32) (Z : jZ) (I : jI) (L : jL), SH Z → jext Z0 Z → jle Z5 Z → jin B Z → jk Z v1 11 → jk Z v2 12 → jk Z v3 15 → K23 v1 v2 v3 v4 Z I L → jJ G 8 23 [(0, .ref b), (1, .ref v1), (2, .ref v2), (3, .ref v3), (4, .int v4)] [] Z I L (k9 + (jcz Z - jcz Z5) + 27) (n9 + (jsz Z - jsz Z5) + 600)) (v1 : Nat) (v2 : Nat) (v3 : Nat) (v4 : Int32) (Z : jZ) (I : jI) (L : jL) (hZ : SH Z) (hx : jext Z0 Z) (hc : jle Z5 Z) (hb : jin B Z) (kv1 : jk Z v1 11) (kv2 : jk Z v2 12) (kv3 : jk Z v3 15) (h : f_L_law_b1131 xs Ls B K23 v1 v2 v3 v4 Z I L) : jJ G 8 1131 [(0, .ref b), (1, .ref v1), (2, .ref v2), (3, .ref v3), (4, .int v4)] [] Z I L (k9 + (jcz Z - jcz Z5) + 0) (n9 + (jsz Z - jsz Z5) + 0) := by
  unfold f_L_law_b1131 at h
  refine j_aload_n E dL_law_1131 1 rfl ?_
  refine ju_callV E [] [] (c_X11_all (gL G) (gD G) (gY G) B v1 Z I L _ hZ hb kv1 h) (gwV W_1409 W_1410 W_1411 W_40 W_1408) rfl ⟨rfl, fy_X11_all⟩ ⟨by decide, by decide⟩ (c := 11) rfl (by decide) kv1 rfl rfl (Nat.le_of_ble_eq_true rfl) ⟨by show k9 + (jcz Z - jcz Z5) + 0 + (B.1 - jcz Z) ≤ 601024; have := hb.1; have := hc.1; omega, by show n9 + (jsz Z - jsz Z5) + 0 + (B.2 - jsz Z) ≤ 7293034; have := hb.2; have := hc.2; omega⟩ dL_law_1132 (fun v512 Z513 I514 L515 q516 j517 => ?_)
  refine j_kn (k' := k9 + (jcz Z513 - jcz Z5) + 0) (n' := n9 + (jsz Z513 - jsz Z5) + 0) (by have := hc.1; have := j517.1; omega) (by have := hc.2; have := j517.2; omega) ?_
  have hc := jle_trans hc j517
  obtain ⟨yZ513, hZ513, hbZ513, r518, rfl, h⟩ := q516
  have hZ := hZ513
  have hx : jext Z0 Z513 := jext_trans hx yZ513
  have hb := hbZ513
  have k519 := (yZ513 _ _ kv1).1
  have k520 := (yZ513 _ _ kv2).1
  have k521 := (yZ513 _ _ kv3).1
  show jJ G 8 1135 [(0, .ref b), (1, .ref v1), (2, .ref v2), (3, .ref v3), (4, .int v4)] [.int r518] Z513 I514 L515 (k9 + (jcz Z513 - jcz Z5) + 0) (n9 + (jsz Z513 - jsz Z5) + 0)
  refine j_pop E dL_law_1135 rfl ?_
  refine j_aload_n E dL_law_1136 2 rfl ?_
  refine ju_callV E [] [] (c_X12_all (gL G) (gD G) (gY G) B v2 Z513 I514 L515 _ hZ hb k520 h) (gwV W_1413 W_1414 W_1415 W_695 W_1412) rfl ⟨rfl, fy_X12_all⟩ ⟨by decide, by decide⟩ (c := 12) rfl (by decide) k520 rfl rfl (Nat.le_of_ble_eq_true rfl) ⟨by show k9 + (jcz Z513 - jcz Z5) + 0 + (B.1 - jcz Z513) ≤ 601024; have := hb.1; have := hc.1; omega, by show n9 + (jsz Z513 - jsz Z5) + 0 + (B.2 - jsz Z513) ≤ 7293034; have := hb.2; have := hc.2; omega⟩ dL_law_1137 (fun v522 Z523 I524 L525 q526 j527 => ?_)
  refine j_kn (k' := k9 + (jcz Z523 - jcz Z5) + 0) (n' := n9 + (jsz Z523 - jsz Z5) + 0) (by have := hc.1; have := j527.1; omega) (by have := hc.2; have := j527.2; omega) ?_
  have hc := jle_trans hc j527
  obtain ⟨yZ523, hZ523, hbZ523, r528, rfl, h⟩ := q526
  have hZ := hZ523
  have hx : jext Z0 Z523 := jext_trans hx yZ523
  have hb := hbZ523
  have k529 := (yZ523 _ _ k519).1
  have k530 := (yZ523 _ _ k520).1
  have k531 := (yZ523 _ _ k521).1
  show jJ G 8 1140 [(0, .ref b), (1, .ref v1), (2, .ref v2), (3, .ref v3), (4, .int v4)] [.int r528] Z523 I524 L525 (k9 + (jcz Z523 - jcz Z5) + 0) (n9 + (jsz Z523 - jsz Z5) + 0)
  refine j_pop E dL_law_1140 rfl ?_
  refine j_goto E 1732 dL_law_1141 (by decide) ?_
  refine j_sub [0, 1, 2, 3, 4] rfl ?_
  refine j_widen (k9 := k9 + (jcz Z523 - jcz Z5) + 27) (n9 := n9 + (jsz Z523 - jsz Z5) + 600) (by show k9 + (jcz Z523 - jcz Z5) + 0 ≤ _; omega) (by show n9 + (jsz Z523 - jsz Z5) + 0 ≤ _; omega) ?_
  exact m_L_law_b1732 E hX hV hU hl0 hb9 hn9 K23 hK23 v1 v2 v3 v4 Z523 I524 L525 hZ hx hc hb k529 k530 k531 h
set_option maxRecDepth 100000 in
def f_L_law_b1144 (xs : Nat → Int32) (Ls : Nat) (B : Nat × Nat) (K23 : Nat → Nat → Nat → Int32 → jZ → jI → jL → Prop) (v1 : Nat) (v2 : Nat) (v3 : Nat) (v4 : Int32) (Z : jZ) (I : jI) (L : jL) : Prop := (vp_in (v4 + (1 : Int32)) Ls ∧ (f_X11_whole B v1 (xs (v4 + (1 : Int32)).toNatClampNeg) Z I L (fun r539 Z534 I535 L536 => (vp_in (v4 + (1 : Int32)) Ls ∧ (f_X12_whole B v2 (xs (v4 + (1 : Int32)).toNatClampNeg) Z534 I535 L536 (fun r550 Z545 I546 L547 => f_L_law_b1732 xs Ls B K23 v1 v2 v3 v4 Z545 I546 L547))))))
set_option maxHeartbeats 4000000 in
set_option maxRecDepth 100000 in
theorem m_L_law_b1144 {G : jG} {Z0 : jZ} {xs : Nat → Int32} {Ls b k9 n9 sa sb : Nat} {B : Nat × Nat} {Z5 : jZ} (E : jE G cL_law RL (Cond.arrayClass .byte :: jT) 8 (some .boolean) room_1 jRL) (hX : va_X b Ls xs (gS G) (gS G).heap ∧ b < (gS G).heap.size ∧ ¬ gA G b) (hV : jV (gA G) (gS G) (gS G).heap) (hU : jU sa sb (gA G) (gS G) (gS G).heap) (hl0 : (gL G).stackTraces = false) (hb9 : k9 + 27 + (B.1 - jcz Z5) ≤ 601024) (hn9 : n9 + 600 + (B.2 - jsz Z5) ≤ 7293034) (K23 : Nat → Nat → Nat → Int32 → jZ → jI → jL → Prop) (hK23 : ∀ (v1 : Nat) (v2 : Nat) (v3 : Nat) (v4 : Int32) (Z : jZ) (I : jI) (L : jL), SH Z → jext Z0 Z → jle Z5 Z → jin B Z → jk Z v1 11 → jk Z v2 12 → jk Z v3 15 → K23 v1 v2 v3 v4 Z I L → jJ G 8 23 [(0, .ref b), (1, .ref v1), (2, .ref v2), (3, .ref v3), (4, .int v4)] [] Z I L (k9 + (jcz Z - jcz Z5) + 27) (n9 + (jsz Z - jsz Z5) + 600)) (v1 : Nat) (v2 : Nat) (v3 : Nat) (v4 : Int32) (Z : jZ) (I : jI) (L : jL) (hZ : SH Z) (hx : jext Z0 Z) (hc : jle Z5 Z) (hb : jin B Z) (kv1 : jk Z v1 11) (kv2 : jk Z v2 12) (kv3 : jk Z v3 15) (h : f_L_law_b1144 xs Ls B K23 v1 v2 v3 v4 Z I L) : jJ G 8 1144 [(0, .ref b), (1, .ref v1), (2, .ref v2), (3, .ref v3), (4, .int v4)] [] Z I L (k9 + (jcz Z - jcz Z5) + 0) (n9 + (jsz Z - jsz Z5) + 0) := by
  unfold f_L_law_b1144 at h
  refine j_aload_n E dL_law_1144 1 rfl ?_
  refine j_aload_n E dL_law_1145 0 rfl ?_
  refine j_iload E dL_law_1146 4 rfl ?_
  refine j_iconst E (v := 1) dL_law_1148 (by decide) ?_
  refine j_iadd E dL_law_1149 ?_
  obtain ⟨o532, h⟩ := h
  refine j_sld E hX.1 hX.2.1 hX.2.2 o532 dL_law_1150 ?_
  refine ju_callV E [.int (xs (v4 + (1 : Int32)).toNatClampNeg)] [] (c_X11_whole (gL G) (gD G) (gY G) B v1 (xs (v4 + (1 : Int32)).toNatClampNeg) Z I L _ hZ hb kv1 h) (gwV W_1417 W_1418 W_1419 W_40 W_1416) rfl ⟨rfl, fy_X11_whole⟩ ⟨by decide, by decide⟩ (c := 11) rfl (by decide) kv1 rfl rfl (Nat.le_of_ble_eq_true rfl) ⟨by show k9 + (jcz Z - jcz Z5) + 0 + (B.1 - jcz Z) ≤ 601024; have := hb.1; have := hc.1; omega, by show n9 + (jsz Z - jsz Z5) + 0 + (B.2 - jsz Z) ≤ 7293034; have := hb.2; have := hc.2; omega⟩ dL_law_1151 (fun v533 Z534 I535 L536 q537 j538 => ?_)
  refine j_kn (k' := k9 + (jcz Z534 - jcz Z5) + 0) (n' := n9 + (jsz Z534 - jsz Z5) + 0) (by have := hc.1; have := j538.1; omega) (by have := hc.2; have := j538.2; omega) ?_
  have hc := jle_trans hc j538
  obtain ⟨yZ534, hZ534, hbZ534, r539, rfl, h⟩ := q537
  have hZ := hZ534
  have hx : jext Z0 Z534 := jext_trans hx yZ534
  have hb := hbZ534
  have k540 := (yZ534 _ _ kv1).1
  have k541 := (yZ534 _ _ kv2).1
  have k542 := (yZ534 _ _ kv3).1
  show jJ G 8 1154 [(0, .ref b), (1, .ref v1), (2, .ref v2), (3, .ref v3), (4, .int v4)] [.int r539] Z534 I535 L536 (k9 + (jcz Z534 - jcz Z5) + 0) (n9 + (jsz Z534 - jsz Z5) + 0)
  refine j_pop E dL_law_1154 rfl ?_
  refine j_aload_n E dL_law_1155 2 rfl ?_
  refine j_aload_n E dL_law_1156 0 rfl ?_
  refine j_iload E dL_law_1157 4 rfl ?_
  refine j_iconst E (v := 1) dL_law_1159 (by decide) ?_
  refine j_iadd E dL_law_1160 ?_
  obtain ⟨o543, h⟩ := h
  refine j_sld E hX.1 hX.2.1 hX.2.2 o543 dL_law_1161 ?_
  refine ju_callV E [.int (xs (v4 + (1 : Int32)).toNatClampNeg)] [] (c_X12_whole (gL G) (gD G) (gY G) B v2 (xs (v4 + (1 : Int32)).toNatClampNeg) Z534 I535 L536 _ hZ hb k541 h) (gwV W_1421 W_1422 W_1423 W_695 W_1420) rfl ⟨rfl, fy_X12_whole⟩ ⟨by decide, by decide⟩ (c := 12) rfl (by decide) k541 rfl rfl (Nat.le_of_ble_eq_true rfl) ⟨by show k9 + (jcz Z534 - jcz Z5) + 0 + (B.1 - jcz Z534) ≤ 601024; have := hb.1; have := hc.1; omega, by show n9 + (jsz Z534 - jsz Z5) + 0 + (B.2 - jsz Z534) ≤ 7293034; have := hb.2; have := hc.2; omega⟩ dL_law_1162 (fun v544 Z545 I546 L547 q548 j549 => ?_)
  refine j_kn (k' := k9 + (jcz Z545 - jcz Z5) + 0) (n' := n9 + (jsz Z545 - jsz Z5) + 0) (by have := hc.1; have := j549.1; omega) (by have := hc.2; have := j549.2; omega) ?_
  have hc := jle_trans hc j549
  obtain ⟨yZ545, hZ545, hbZ545, r550, rfl, h⟩ := q548
  have hZ := hZ545
  have hx : jext Z0 Z545 := jext_trans hx yZ545
  have hb := hbZ545
  have k551 := (yZ545 _ _ k540).1
  have k552 := (yZ545 _ _ k541).1
  have k553 := (yZ545 _ _ k542).1
  show jJ G 8 1165 [(0, .ref b), (1, .ref v1), (2, .ref v2), (3, .ref v3), (4, .int v4)] [.int r550] Z545 I546 L547 (k9 + (jcz Z545 - jcz Z5) + 0) (n9 + (jsz Z545 - jsz Z5) + 0)
  refine j_pop E dL_law_1165 rfl ?_
  refine j_goto E 1732 dL_law_1166 (by decide) ?_
  refine j_sub [0, 1, 2, 3, 4] rfl ?_
  refine j_widen (k9 := k9 + (jcz Z545 - jcz Z5) + 27) (n9 := n9 + (jsz Z545 - jsz Z5) + 600) (by show k9 + (jcz Z545 - jcz Z5) + 0 ≤ _; omega) (by show n9 + (jsz Z545 - jsz Z5) + 0 ≤ _; omega) ?_
  exact m_L_law_b1732 E hX hV hU hl0 hb9 hn9 K23 hK23 v1 v2 v3 v4 Z545 I546 L547 hZ hx hc hb k551 k552 k553 h
set_option maxRecDepth 100000 in
def f_L_law_b1169 (xs : Nat → Int32) (Ls : Nat) (B : Nat × Nat) (K23 : Nat → Nat → Nat → Int32 → jZ → jI → jL → Prop) (v1 : Nat) (v2 : Nat) (v3 : Nat) (v4 : Int32) (Z : jZ) (I : jI) (L : jL) : Prop := (vp_in (v4 + (1 : Int32)) Ls ∧ (f_X11_mends v1 (xs (v4 + (1 : Int32)).toNatClampNeg) Z I L (fun r561 I557 L558 => (vp_in (v4 + (1 : Int32)) Ls ∧ (f_X12_mends v2 (xs (v4 + (1 : Int32)).toNatClampNeg) Z I557 L558 (fun r569 I565 L566 => f_L_law_b1732 xs Ls B K23 v1 v2 v3 v4 Z I565 L566))))))
set_option maxHeartbeats 4000000 in
set_option maxRecDepth 100000 in
theorem m_L_law_b1169 {G : jG} {Z0 : jZ} {xs : Nat → Int32} {Ls b k9 n9 sa sb : Nat} {B : Nat × Nat} {Z5 : jZ} (E : jE G cL_law RL (Cond.arrayClass .byte :: jT) 8 (some .boolean) room_1 jRL) (hX : va_X b Ls xs (gS G) (gS G).heap ∧ b < (gS G).heap.size ∧ ¬ gA G b) (hV : jV (gA G) (gS G) (gS G).heap) (hU : jU sa sb (gA G) (gS G) (gS G).heap) (hl0 : (gL G).stackTraces = false) (hb9 : k9 + 27 + (B.1 - jcz Z5) ≤ 601024) (hn9 : n9 + 600 + (B.2 - jsz Z5) ≤ 7293034) (K23 : Nat → Nat → Nat → Int32 → jZ → jI → jL → Prop) (hK23 : ∀ (v1 : Nat) (v2 : Nat) (v3 : Nat) (v4 : Int32) (Z : jZ) (I : jI) (L : jL), SH Z → jext Z0 Z → jle Z5 Z → jin B Z → jk Z v1 11 → jk Z v2 12 → jk Z v3 15 → K23 v1 v2 v3 v4 Z I L → jJ G 8 23 [(0, .ref b), (1, .ref v1), (2, .ref v2), (3, .ref v3), (4, .int v4)] [] Z I L (k9 + (jcz Z - jcz Z5) + 27) (n9 + (jsz Z - jsz Z5) + 600)) (v1 : Nat) (v2 : Nat) (v3 : Nat) (v4 : Int32) (Z : jZ) (I : jI) (L : jL) (hZ : SH Z) (hx : jext Z0 Z) (hc : jle Z5 Z) (hb : jin B Z) (kv1 : jk Z v1 11) (kv2 : jk Z v2 12) (kv3 : jk Z v3 15) (h : f_L_law_b1169 xs Ls B K23 v1 v2 v3 v4 Z I L) : jJ G 8 1169 [(0, .ref b), (1, .ref v1), (2, .ref v2), (3, .ref v3), (4, .int v4)] [] Z I L (k9 + (jcz Z - jcz Z5) + 0) (n9 + (jsz Z - jsz Z5) + 0) := by
  unfold f_L_law_b1169 at h
  refine j_aload_n E dL_law_1169 1 rfl ?_
  refine j_aload_n E dL_law_1170 0 rfl ?_
  refine j_iload E dL_law_1171 4 rfl ?_
  refine j_iconst E (v := 1) dL_law_1173 (by decide) ?_
  refine j_iadd E dL_law_1174 ?_
  obtain ⟨o554, h⟩ := h
  refine j_sld E hX.1 hX.2.1 hX.2.2 o554 dL_law_1175 ?_
  refine j_callV E [.int (xs (v4 + (1 : Int32)).toNatClampNeg)] [] (c_X11_mends (gL G) (gD G) (gY G) v1 (xs (v4 + (1 : Int32)).toNatClampNeg) Z I L _ hZ kv1 h) (gwV W_1425 W_1426 W_1427 W_40 W_1424) rfl ⟨rfl, fy_X11_mends⟩ ⟨by decide, by decide⟩ (c := 11) rfl (by decide) kv1 rfl rfl (Nat.le_of_ble_eq_true rfl) ⟨by show k9 + (jcz Z - jcz Z5) + 0 + 0 ≤ 601024; have := hb.1; omega, by show n9 + (jsz Z - jsz Z5) + 0 + 0 ≤ 7293034; have := hb.2; omega⟩ dL_law_1176 (fun v555 Z556 I557 L558 q559 => ?_)
  obtain ⟨rfl, r561, rfl, h⟩ := q559
  show jJ G 8 1179 [(0, .ref b), (1, .ref v1), (2, .ref v2), (3, .ref v3), (4, .int v4)] [.int r561] Z I557 L558 (k9 + (jcz Z - jcz Z5) + 0) (n9 + (jsz Z - jsz Z5) + 0)
  refine j_pop E dL_law_1179 rfl ?_
  refine j_aload_n E dL_law_1180 2 rfl ?_
  refine j_aload_n E dL_law_1181 0 rfl ?_
  refine j_iload E dL_law_1182 4 rfl ?_
  refine j_iconst E (v := 1) dL_law_1184 (by decide) ?_
  refine j_iadd E dL_law_1185 ?_
  obtain ⟨o562, h⟩ := h
  refine j_sld E hX.1 hX.2.1 hX.2.2 o562 dL_law_1186 ?_
  refine j_callV E [.int (xs (v4 + (1 : Int32)).toNatClampNeg)] [] (c_X12_mends (gL G) (gD G) (gY G) v2 (xs (v4 + (1 : Int32)).toNatClampNeg) Z I557 L558 _ hZ kv2 h) (gwV W_1429 W_1430 W_1431 W_695 W_1428) rfl ⟨rfl, fy_X12_mends⟩ ⟨by decide, by decide⟩ (c := 12) rfl (by decide) kv2 rfl rfl (Nat.le_of_ble_eq_true rfl) ⟨by show k9 + (jcz Z - jcz Z5) + 0 + 0 ≤ 601024; have := hb.1; omega, by show n9 + (jsz Z - jsz Z5) + 0 + 0 ≤ 7293034; have := hb.2; omega⟩ dL_law_1187 (fun v563 Z564 I565 L566 q567 => ?_)
  obtain ⟨rfl, r569, rfl, h⟩ := q567
  show jJ G 8 1190 [(0, .ref b), (1, .ref v1), (2, .ref v2), (3, .ref v3), (4, .int v4)] [.int r569] Z I565 L566 (k9 + (jcz Z - jcz Z5) + 0) (n9 + (jsz Z - jsz Z5) + 0)
  refine j_pop E dL_law_1190 rfl ?_
  refine j_goto E 1732 dL_law_1191 (by decide) ?_
  refine j_sub [0, 1, 2, 3, 4] rfl ?_
  refine j_widen (k9 := k9 + (jcz Z - jcz Z5) + 27) (n9 := n9 + (jsz Z - jsz Z5) + 600) (by show k9 + (jcz Z - jcz Z5) + 0 ≤ _; omega) (by show n9 + (jsz Z - jsz Z5) + 0 ≤ _; omega) ?_
  exact m_L_law_b1732 E hX hV hU hl0 hb9 hn9 K23 hK23 v1 v2 v3 v4 Z I565 L566 hZ hx hc hb kv1 kv2 kv3 h
set_option maxRecDepth 100000 in
def f_L_law_b1194 (xs : Nat → Int32) (Ls : Nat) (B : Nat × Nat) (K23 : Nat → Nat → Nat → Int32 → jZ → jI → jL → Prop) (v1 : Nat) (v2 : Nat) (v3 : Nat) (v4 : Int32) (Z : jZ) (I : jI) (L : jL) : Prop := (vp_in (v4 + (1 : Int32)) Ls ∧ (f_X11_shut B v1 (xs (v4 + (1 : Int32)).toNatClampNeg) Z I L (fun r577 Z572 I573 L574 => (vp_in (v4 + (1 : Int32)) Ls ∧ (f_X12_shut B v2 (xs (v4 + (1 : Int32)).toNatClampNeg) Z572 I573 L574 (fun r588 Z583 I584 L585 => f_L_law_b1732 xs Ls B K23 v1 v2 v3 v4 Z583 I584 L585))))))
set_option maxHeartbeats 4000000 in
set_option maxRecDepth 100000 in
theorem m_L_law_b1194 {G : jG} {Z0 : jZ} {xs : Nat → Int32} {Ls b k9 n9 sa sb : Nat} {B : Nat × Nat} {Z5 : jZ} (E : jE G cL_law RL (Cond.arrayClass .byte :: jT) 8 (some .boolean) room_1 jRL) (hX : va_X b Ls xs (gS G) (gS G).heap ∧ b < (gS G).heap.size ∧ ¬ gA G b) (hV : jV (gA G) (gS G) (gS G).heap) (hU : jU sa sb (gA G) (gS G) (gS G).heap) (hl0 : (gL G).stackTraces = false) (hb9 : k9 + 27 + (B.1 - jcz Z5) ≤ 601024) (hn9 : n9 + 600 + (B.2 - jsz Z5) ≤ 7293034) (K23 : Nat → Nat → Nat → Int32 → jZ → jI → jL → Prop) (hK23 : ∀ (v1 : Nat) (v2 : Nat) (v3 : Nat) (v4 : Int32) (Z : jZ) (I : jI) (L : jL), SH Z → jext Z0 Z → jle Z5 Z → jin B Z → jk Z v1 11 → jk Z v2 12 → jk Z v3 15 → K23 v1 v2 v3 v4 Z I L → jJ G 8 23 [(0, .ref b), (1, .ref v1), (2, .ref v2), (3, .ref v3), (4, .int v4)] [] Z I L (k9 + (jcz Z - jcz Z5) + 27) (n9 + (jsz Z - jsz Z5) + 600)) (v1 : Nat) (v2 : Nat) (v3 : Nat) (v4 : Int32) (Z : jZ) (I : jI) (L : jL) (hZ : SH Z) (hx : jext Z0 Z) (hc : jle Z5 Z) (hb : jin B Z) (kv1 : jk Z v1 11) (kv2 : jk Z v2 12) (kv3 : jk Z v3 15) (h : f_L_law_b1194 xs Ls B K23 v1 v2 v3 v4 Z I L) : jJ G 8 1194 [(0, .ref b), (1, .ref v1), (2, .ref v2), (3, .ref v3), (4, .int v4)] [] Z I L (k9 + (jcz Z - jcz Z5) + 0) (n9 + (jsz Z - jsz Z5) + 0) := by
  unfold f_L_law_b1194 at h
  refine j_aload_n E dL_law_1194 1 rfl ?_
  refine j_aload_n E dL_law_1195 0 rfl ?_
  refine j_iload E dL_law_1196 4 rfl ?_
  refine j_iconst E (v := 1) dL_law_1198 (by decide) ?_
  refine j_iadd E dL_law_1199 ?_
  obtain ⟨o570, h⟩ := h
  refine j_sld E hX.1 hX.2.1 hX.2.2 o570 dL_law_1200 ?_
  refine ju_callV E [.int (xs (v4 + (1 : Int32)).toNatClampNeg)] [] (c_X11_shut (gL G) (gD G) (gY G) B v1 (xs (v4 + (1 : Int32)).toNatClampNeg) Z I L _ hZ hb kv1 h) (gwV W_1433 W_1434 W_1435 W_40 W_1432) rfl ⟨rfl, fy_X11_shut⟩ ⟨by decide, by decide⟩ (c := 11) rfl (by decide) kv1 rfl rfl (Nat.le_of_ble_eq_true rfl) ⟨by show k9 + (jcz Z - jcz Z5) + 0 + (B.1 - jcz Z) ≤ 601024; have := hb.1; have := hc.1; omega, by show n9 + (jsz Z - jsz Z5) + 0 + (B.2 - jsz Z) ≤ 7293034; have := hb.2; have := hc.2; omega⟩ dL_law_1201 (fun v571 Z572 I573 L574 q575 j576 => ?_)
  refine j_kn (k' := k9 + (jcz Z572 - jcz Z5) + 0) (n' := n9 + (jsz Z572 - jsz Z5) + 0) (by have := hc.1; have := j576.1; omega) (by have := hc.2; have := j576.2; omega) ?_
  have hc := jle_trans hc j576
  obtain ⟨yZ572, hZ572, hbZ572, r577, rfl, h⟩ := q575
  have hZ := hZ572
  have hx : jext Z0 Z572 := jext_trans hx yZ572
  have hb := hbZ572
  have k578 := (yZ572 _ _ kv1).1
  have k579 := (yZ572 _ _ kv2).1
  have k580 := (yZ572 _ _ kv3).1
  show jJ G 8 1204 [(0, .ref b), (1, .ref v1), (2, .ref v2), (3, .ref v3), (4, .int v4)] [.int r577] Z572 I573 L574 (k9 + (jcz Z572 - jcz Z5) + 0) (n9 + (jsz Z572 - jsz Z5) + 0)
  refine j_pop E dL_law_1204 rfl ?_
  refine j_aload_n E dL_law_1205 2 rfl ?_
  refine j_aload_n E dL_law_1206 0 rfl ?_
  refine j_iload E dL_law_1207 4 rfl ?_
  refine j_iconst E (v := 1) dL_law_1209 (by decide) ?_
  refine j_iadd E dL_law_1210 ?_
  obtain ⟨o581, h⟩ := h
  refine j_sld E hX.1 hX.2.1 hX.2.2 o581 dL_law_1211 ?_
  refine ju_callV E [.int (xs (v4 + (1 : Int32)).toNatClampNeg)] [] (c_X12_shut (gL G) (gD G) (gY G) B v2 (xs (v4 + (1 : Int32)).toNatClampNeg) Z572 I573 L574 _ hZ hb k579 h) (gwV W_1437 W_1438 W_1439 W_695 W_1436) rfl ⟨rfl, fy_X12_shut⟩ ⟨by decide, by decide⟩ (c := 12) rfl (by decide) k579 rfl rfl (Nat.le_of_ble_eq_true rfl) ⟨by show k9 + (jcz Z572 - jcz Z5) + 0 + (B.1 - jcz Z572) ≤ 601024; have := hb.1; have := hc.1; omega, by show n9 + (jsz Z572 - jsz Z5) + 0 + (B.2 - jsz Z572) ≤ 7293034; have := hb.2; have := hc.2; omega⟩ dL_law_1212 (fun v582 Z583 I584 L585 q586 j587 => ?_)
  refine j_kn (k' := k9 + (jcz Z583 - jcz Z5) + 0) (n' := n9 + (jsz Z583 - jsz Z5) + 0) (by have := hc.1; have := j587.1; omega) (by have := hc.2; have := j587.2; omega) ?_
  have hc := jle_trans hc j587
  obtain ⟨yZ583, hZ583, hbZ583, r588, rfl, h⟩ := q586
  have hZ := hZ583
  have hx : jext Z0 Z583 := jext_trans hx yZ583
  have hb := hbZ583
  have k589 := (yZ583 _ _ k578).1
  have k590 := (yZ583 _ _ k579).1
  have k591 := (yZ583 _ _ k580).1
  show jJ G 8 1215 [(0, .ref b), (1, .ref v1), (2, .ref v2), (3, .ref v3), (4, .int v4)] [.int r588] Z583 I584 L585 (k9 + (jcz Z583 - jcz Z5) + 0) (n9 + (jsz Z583 - jsz Z5) + 0)
  refine j_pop E dL_law_1215 rfl ?_
  refine j_goto E 1732 dL_law_1216 (by decide) ?_
  refine j_sub [0, 1, 2, 3, 4] rfl ?_
  refine j_widen (k9 := k9 + (jcz Z583 - jcz Z5) + 27) (n9 := n9 + (jsz Z583 - jsz Z5) + 600) (by show k9 + (jcz Z583 - jcz Z5) + 0 ≤ _; omega) (by show n9 + (jsz Z583 - jsz Z5) + 0 ≤ _; omega) ?_
  exact m_L_law_b1732 E hX hV hU hl0 hb9 hn9 K23 hK23 v1 v2 v3 v4 Z583 I584 L585 hZ hx hc hb k589 k590 k591 h
set_option maxRecDepth 100000 in
def f_L_law_b1219 (xs : Nat → Int32) (Ls : Nat) (B : Nat × Nat) (K23 : Nat → Nat → Nat → Int32 → jZ → jI → jL → Prop) (v1 : Nat) (v2 : Nat) (v3 : Nat) (v4 : Int32) (Z : jZ) (I : jI) (L : jL) : Prop := (vp_in (v4 + (1 : Int32)) Ls ∧ (f_X11_toll B v1 (xs (v4 + (1 : Int32)).toNatClampNeg) Z I L (fun r599 Z594 I595 L596 => (vp_in (v4 + (1 : Int32)) Ls ∧ (f_X12_toll B v2 (xs (v4 + (1 : Int32)).toNatClampNeg) Z594 I595 L596 (fun r610 Z605 I606 L607 => f_L_law_b1732 xs Ls B K23 v1 v2 v3 v4 Z605 I606 L607))))))
set_option maxHeartbeats 4000000 in
set_option maxRecDepth 100000 in
theorem m_L_law_b1219 {G : jG} {Z0 : jZ} {xs : Nat → Int32} {Ls b k9 n9 sa sb : Nat} {B : Nat × Nat} {Z5 : jZ} (E : jE G cL_law RL (Cond.arrayClass .byte :: jT) 8 (some .boolean) room_1 jRL) (hX : va_X b Ls xs (gS G) (gS G).heap ∧ b < (gS G).heap.size ∧ ¬ gA G b) (hV : jV (gA G) (gS G) (gS G).heap) (hU : jU sa sb (gA G) (gS G) (gS G).heap) (hl0 : (gL G).stackTraces = false) (hb9 : k9 + 27 + (B.1 - jcz Z5) ≤ 601024) (hn9 : n9 + 600 + (B.2 - jsz Z5) ≤ 7293034) (K23 : Nat → Nat → Nat → Int32 → jZ → jI → jL → Prop) (hK23 : ∀ (v1 : Nat) (v2 : Nat) (v3 : Nat) (v4 : Int32) (Z : jZ) (I : jI) (L : jL), SH Z → jext Z0 Z → jle Z5 Z → jin B Z → jk Z v1 11 → jk Z v2 12 → jk Z v3 15 → K23 v1 v2 v3 v4 Z I L → jJ G 8 23 [(0, .ref b), (1, .ref v1), (2, .ref v2), (3, .ref v3), (4, .int v4)] [] Z I L (k9 + (jcz Z - jcz Z5) + 27) (n9 + (jsz Z - jsz Z5) + 600)) (v1 : Nat) (v2 : Nat) (v3 : Nat) (v4 : Int32) (Z : jZ) (I : jI) (L : jL) (hZ : SH Z) (hx : jext Z0 Z) (hc : jle Z5 Z) (hb : jin B Z) (kv1 : jk Z v1 11) (kv2 : jk Z v2 12) (kv3 : jk Z v3 15) (h : f_L_law_b1219 xs Ls B K23 v1 v2 v3 v4 Z I L) : jJ G 8 1219 [(0, .ref b), (1, .ref v1), (2, .ref v2), (3, .ref v3), (4, .int v4)] [] Z I L (k9 + (jcz Z - jcz Z5) + 0) (n9 + (jsz Z - jsz Z5) + 0) := by
  unfold f_L_law_b1219 at h
  refine j_aload_n E dL_law_1219 1 rfl ?_
  refine j_aload_n E dL_law_1220 0 rfl ?_
  refine j_iload E dL_law_1221 4 rfl ?_
  refine j_iconst E (v := 1) dL_law_1223 (by decide) ?_
  refine j_iadd E dL_law_1224 ?_
  obtain ⟨o592, h⟩ := h
  refine j_sld E hX.1 hX.2.1 hX.2.2 o592 dL_law_1225 ?_
  refine ju_callV E [.int (xs (v4 + (1 : Int32)).toNatClampNeg)] [] (c_X11_toll (gL G) (gD G) (gY G) B v1 (xs (v4 + (1 : Int32)).toNatClampNeg) Z I L _ hZ hb kv1 h) (gwV W_1441 W_1442 W_1443 W_40 W_1440) rfl ⟨rfl, fy_X11_toll⟩ ⟨by decide, by decide⟩ (c := 11) rfl (by decide) kv1 rfl rfl (Nat.le_of_ble_eq_true rfl) ⟨by show k9 + (jcz Z - jcz Z5) + 0 + (B.1 - jcz Z) ≤ 601024; have := hb.1; have := hc.1; omega, by show n9 + (jsz Z - jsz Z5) + 0 + (B.2 - jsz Z) ≤ 7293034; have := hb.2; have := hc.2; omega⟩ dL_law_1226 (fun v593 Z594 I595 L596 q597 j598 => ?_)
  refine j_kn (k' := k9 + (jcz Z594 - jcz Z5) + 0) (n' := n9 + (jsz Z594 - jsz Z5) + 0) (by have := hc.1; have := j598.1; omega) (by have := hc.2; have := j598.2; omega) ?_
  have hc := jle_trans hc j598
  obtain ⟨yZ594, hZ594, hbZ594, r599, rfl, h⟩ := q597
  have hZ := hZ594
  have hx : jext Z0 Z594 := jext_trans hx yZ594
  have hb := hbZ594
  have k600 := (yZ594 _ _ kv1).1
  have k601 := (yZ594 _ _ kv2).1
  have k602 := (yZ594 _ _ kv3).1
  show jJ G 8 1229 [(0, .ref b), (1, .ref v1), (2, .ref v2), (3, .ref v3), (4, .int v4)] [.int r599] Z594 I595 L596 (k9 + (jcz Z594 - jcz Z5) + 0) (n9 + (jsz Z594 - jsz Z5) + 0)
  refine j_pop E dL_law_1229 rfl ?_
  refine j_aload_n E dL_law_1230 2 rfl ?_
  refine j_aload_n E dL_law_1231 0 rfl ?_
  refine j_iload E dL_law_1232 4 rfl ?_
  refine j_iconst E (v := 1) dL_law_1234 (by decide) ?_
  refine j_iadd E dL_law_1235 ?_
  obtain ⟨o603, h⟩ := h
  refine j_sld E hX.1 hX.2.1 hX.2.2 o603 dL_law_1236 ?_
  refine ju_callV E [.int (xs (v4 + (1 : Int32)).toNatClampNeg)] [] (c_X12_toll (gL G) (gD G) (gY G) B v2 (xs (v4 + (1 : Int32)).toNatClampNeg) Z594 I595 L596 _ hZ hb k601 h) (gwV W_1445 W_1446 W_1447 W_695 W_1444) rfl ⟨rfl, fy_X12_toll⟩ ⟨by decide, by decide⟩ (c := 12) rfl (by decide) k601 rfl rfl (Nat.le_of_ble_eq_true rfl) ⟨by show k9 + (jcz Z594 - jcz Z5) + 0 + (B.1 - jcz Z594) ≤ 601024; have := hb.1; have := hc.1; omega, by show n9 + (jsz Z594 - jsz Z5) + 0 + (B.2 - jsz Z594) ≤ 7293034; have := hb.2; have := hc.2; omega⟩ dL_law_1237 (fun v604 Z605 I606 L607 q608 j609 => ?_)
  refine j_kn (k' := k9 + (jcz Z605 - jcz Z5) + 0) (n' := n9 + (jsz Z605 - jsz Z5) + 0) (by have := hc.1; have := j609.1; omega) (by have := hc.2; have := j609.2; omega) ?_
  have hc := jle_trans hc j609
  obtain ⟨yZ605, hZ605, hbZ605, r610, rfl, h⟩ := q608
  have hZ := hZ605
  have hx : jext Z0 Z605 := jext_trans hx yZ605
  have hb := hbZ605
  have k611 := (yZ605 _ _ k600).1
  have k612 := (yZ605 _ _ k601).1
  have k613 := (yZ605 _ _ k602).1
  show jJ G 8 1240 [(0, .ref b), (1, .ref v1), (2, .ref v2), (3, .ref v3), (4, .int v4)] [.int r610] Z605 I606 L607 (k9 + (jcz Z605 - jcz Z5) + 0) (n9 + (jsz Z605 - jsz Z5) + 0)
  refine j_pop E dL_law_1240 rfl ?_
  refine j_goto E 1732 dL_law_1241 (by decide) ?_
  refine j_sub [0, 1, 2, 3, 4] rfl ?_
  refine j_widen (k9 := k9 + (jcz Z605 - jcz Z5) + 27) (n9 := n9 + (jsz Z605 - jsz Z5) + 600) (by show k9 + (jcz Z605 - jcz Z5) + 0 ≤ _; omega) (by show n9 + (jsz Z605 - jsz Z5) + 0 ≤ _; omega) ?_
  exact m_L_law_b1732 E hX hV hU hl0 hb9 hn9 K23 hK23 v1 v2 v3 v4 Z605 I606 L607 hZ hx hc hb k611 k612 k613 h
set_option maxRecDepth 100000 in
def f_L_law_b1244 (xs : Nat → Int32) (Ls : Nat) (B : Nat × Nat) (K23 : Nat → Nat → Nat → Int32 → jZ → jI → jL → Prop) (v1 : Nat) (v2 : Nat) (v3 : Nat) (v4 : Int32) (Z : jZ) (I : jI) (L : jL) : Prop := (f_X11_peace B v1 Z I L (fun r620 Z615 I616 L617 => (f_X12_peace B v2 Z615 I616 L617 (fun r630 Z625 I626 L627 => f_L_law_b1732 xs Ls B K23 v1 v2 v3 v4 Z625 I626 L627))))
set_option maxHeartbeats 4000000 in
set_option maxRecDepth 100000 in
theorem m_L_law_b1244 {G : jG} {Z0 : jZ} {xs : Nat → Int32} {Ls b k9 n9 sa sb : Nat} {B : Nat × Nat} {Z5 : jZ} (E : jE G cL_law RL (Cond.arrayClass .byte :: jT) 8 (some .boolean) room_1 jRL) (hX : va_X b Ls xs (gS G) (gS G).heap ∧ b < (gS G).heap.size ∧ ¬ gA G b) (hV : jV (gA G) (gS G) (gS G).heap) (hU : jU sa sb (gA G) (gS G) (gS G).heap) (hl0 : (gL G).stackTraces = false) (hb9 : k9 + 27 + (B.1 - jcz Z5) ≤ 601024) (hn9 : n9 + 600 + (B.2 - jsz Z5) ≤ 7293034) (K23 : Nat → Nat → Nat → Int32 → jZ → jI → jL → Prop) (hK23 : ∀ (v1 : Nat) (v2 : Nat) (v3 : Nat) (v4 : Int32) (Z : jZ) (I : jI) (L : jL), SH Z → jext Z0 Z → jle Z5 Z → jin B Z → jk Z v1 11 → jk Z v2 12 → jk Z v3 15 → K23 v1 v2 v3 v4 Z I L → jJ G 8 23 [(0, .ref b), (1, .ref v1), (2, .ref v2), (3, .ref v3), (4, .int v4)] [] Z I L (k9 + (jcz Z - jcz Z5) + 27) (n9 + (jsz Z - jsz Z5) + 600)) (v1 : Nat) (v2 : Nat) (v3 : Nat) (v4 : Int32) (Z : jZ) (I : jI) (L : jL) (hZ : SH Z) (hx : jext Z0 Z) (hc : jle Z5 Z) (hb : jin B Z) (kv1 : jk Z v1 11) (kv2 : jk Z v2 12) (kv3 : jk Z v3 15) (h : f_L_law_b1244 xs Ls B K23 v1 v2 v3 v4 Z I L) : jJ G 8 1244 [(0, .ref b), (1, .ref v1), (2, .ref v2), (3, .ref v3), (4, .int v4)] [] Z I L (k9 + (jcz Z - jcz Z5) + 0) (n9 + (jsz Z - jsz Z5) + 0) := by
  unfold f_L_law_b1244 at h
  refine j_aload_n E dL_law_1244 1 rfl ?_
  refine ju_callV E [] [] (c_X11_peace (gL G) (gD G) (gY G) B v1 Z I L _ hZ hb kv1 h) (gwV W_1449 W_1450 W_1451 W_40 W_1448) rfl ⟨rfl, fy_X11_peace⟩ ⟨by decide, by decide⟩ (c := 11) rfl (by decide) kv1 rfl rfl (Nat.le_of_ble_eq_true rfl) ⟨by show k9 + (jcz Z - jcz Z5) + 0 + (B.1 - jcz Z) ≤ 601024; have := hb.1; have := hc.1; omega, by show n9 + (jsz Z - jsz Z5) + 0 + (B.2 - jsz Z) ≤ 7293034; have := hb.2; have := hc.2; omega⟩ dL_law_1245 (fun v614 Z615 I616 L617 q618 j619 => ?_)
  refine j_kn (k' := k9 + (jcz Z615 - jcz Z5) + 0) (n' := n9 + (jsz Z615 - jsz Z5) + 0) (by have := hc.1; have := j619.1; omega) (by have := hc.2; have := j619.2; omega) ?_
  have hc := jle_trans hc j619
  obtain ⟨yZ615, hZ615, hbZ615, r620, rfl, h⟩ := q618
  have hZ := hZ615
  have hx : jext Z0 Z615 := jext_trans hx yZ615
  have hb := hbZ615
  have k621 := (yZ615 _ _ kv1).1
  have k622 := (yZ615 _ _ kv2).1
  have k623 := (yZ615 _ _ kv3).1
  show jJ G 8 1248 [(0, .ref b), (1, .ref v1), (2, .ref v2), (3, .ref v3), (4, .int v4)] [.int r620] Z615 I616 L617 (k9 + (jcz Z615 - jcz Z5) + 0) (n9 + (jsz Z615 - jsz Z5) + 0)
  refine j_pop E dL_law_1248 rfl ?_
  refine j_aload_n E dL_law_1249 2 rfl ?_
  refine ju_callV E [] [] (c_X12_peace (gL G) (gD G) (gY G) B v2 Z615 I616 L617 _ hZ hb k622 h) (gwV W_1453 W_1454 W_1455 W_695 W_1452) rfl ⟨rfl, fy_X12_peace⟩ ⟨by decide, by decide⟩ (c := 12) rfl (by decide) k622 rfl rfl (Nat.le_of_ble_eq_true rfl) ⟨by show k9 + (jcz Z615 - jcz Z5) + 0 + (B.1 - jcz Z615) ≤ 601024; have := hb.1; have := hc.1; omega, by show n9 + (jsz Z615 - jsz Z5) + 0 + (B.2 - jsz Z615) ≤ 7293034; have := hb.2; have := hc.2; omega⟩ dL_law_1250 (fun v624 Z625 I626 L627 q628 j629 => ?_)
  refine j_kn (k' := k9 + (jcz Z625 - jcz Z5) + 0) (n' := n9 + (jsz Z625 - jsz Z5) + 0) (by have := hc.1; have := j629.1; omega) (by have := hc.2; have := j629.2; omega) ?_
  have hc := jle_trans hc j629
  obtain ⟨yZ625, hZ625, hbZ625, r630, rfl, h⟩ := q628
  have hZ := hZ625
  have hx : jext Z0 Z625 := jext_trans hx yZ625
  have hb := hbZ625
  have k631 := (yZ625 _ _ k621).1
  have k632 := (yZ625 _ _ k622).1
  have k633 := (yZ625 _ _ k623).1
  show jJ G 8 1253 [(0, .ref b), (1, .ref v1), (2, .ref v2), (3, .ref v3), (4, .int v4)] [.int r630] Z625 I626 L627 (k9 + (jcz Z625 - jcz Z5) + 0) (n9 + (jsz Z625 - jsz Z5) + 0)
  refine j_pop E dL_law_1253 rfl ?_
  refine j_goto E 1732 dL_law_1254 (by decide) ?_
  refine j_sub [0, 1, 2, 3, 4] rfl ?_
  refine j_widen (k9 := k9 + (jcz Z625 - jcz Z5) + 27) (n9 := n9 + (jsz Z625 - jsz Z5) + 600) (by show k9 + (jcz Z625 - jcz Z5) + 0 ≤ _; omega) (by show n9 + (jsz Z625 - jsz Z5) + 0 ≤ _; omega) ?_
  exact m_L_law_b1732 E hX hV hU hl0 hb9 hn9 K23 hK23 v1 v2 v3 v4 Z625 I626 L627 hZ hx hc hb k631 k632 k633 h
set_option maxRecDepth 100000 in
def f_L_law_b1257 (xs : Nat → Int32) (Ls : Nat) (B : Nat × Nat) (K23 : Nat → Nat → Nat → Int32 → jZ → jI → jL → Prop) (v1 : Nat) (v2 : Nat) (v3 : Nat) (v4 : Int32) (Z : jZ) (I : jI) (L : jL) : Prop := (vp_in (v4 + (1 : Int32)) Ls ∧ (f_X11_lamps v1 (xs (v4 + (1 : Int32)).toNatClampNeg) Z I L (fun r641 I637 L638 => (vp_in (v4 + (1 : Int32)) Ls ∧ (f_X12_lamps v2 (xs (v4 + (1 : Int32)).toNatClampNeg) Z I637 L638 (fun r649 I645 L646 => f_L_law_b1732 xs Ls B K23 v1 v2 v3 v4 Z I645 L646))))))
set_option maxHeartbeats 4000000 in
set_option maxRecDepth 100000 in
theorem m_L_law_b1257 {G : jG} {Z0 : jZ} {xs : Nat → Int32} {Ls b k9 n9 sa sb : Nat} {B : Nat × Nat} {Z5 : jZ} (E : jE G cL_law RL (Cond.arrayClass .byte :: jT) 8 (some .boolean) room_1 jRL) (hX : va_X b Ls xs (gS G) (gS G).heap ∧ b < (gS G).heap.size ∧ ¬ gA G b) (hV : jV (gA G) (gS G) (gS G).heap) (hU : jU sa sb (gA G) (gS G) (gS G).heap) (hl0 : (gL G).stackTraces = false) (hb9 : k9 + 27 + (B.1 - jcz Z5) ≤ 601024) (hn9 : n9 + 600 + (B.2 - jsz Z5) ≤ 7293034) (K23 : Nat → Nat → Nat → Int32 → jZ → jI → jL → Prop) (hK23 : ∀ (v1 : Nat) (v2 : Nat) (v3 : Nat) (v4 : Int32) (Z : jZ) (I : jI) (L : jL), SH Z → jext Z0 Z → jle Z5 Z → jin B Z → jk Z v1 11 → jk Z v2 12 → jk Z v3 15 → K23 v1 v2 v3 v4 Z I L → jJ G 8 23 [(0, .ref b), (1, .ref v1), (2, .ref v2), (3, .ref v3), (4, .int v4)] [] Z I L (k9 + (jcz Z - jcz Z5) + 27) (n9 + (jsz Z - jsz Z5) + 600)) (v1 : Nat) (v2 : Nat) (v3 : Nat) (v4 : Int32) (Z : jZ) (I : jI) (L : jL) (hZ : SH Z) (hx : jext Z0 Z) (hc : jle Z5 Z) (hb : jin B Z) (kv1 : jk Z v1 11) (kv2 : jk Z v2 12) (kv3 : jk Z v3 15) (h : f_L_law_b1257 xs Ls B K23 v1 v2 v3 v4 Z I L) : jJ G 8 1257 [(0, .ref b), (1, .ref v1), (2, .ref v2), (3, .ref v3), (4, .int v4)] [] Z I L (k9 + (jcz Z - jcz Z5) + 0) (n9 + (jsz Z - jsz Z5) + 0) := by
  unfold f_L_law_b1257 at h
  refine j_aload_n E dL_law_1257 1 rfl ?_
  refine j_aload_n E dL_law_1258 0 rfl ?_
  refine j_iload E dL_law_1259 4 rfl ?_
  refine j_iconst E (v := 1) dL_law_1261 (by decide) ?_
  refine j_iadd E dL_law_1262 ?_
  obtain ⟨o634, h⟩ := h
  refine j_sld E hX.1 hX.2.1 hX.2.2 o634 dL_law_1263 ?_
  refine j_callV E [.int (xs (v4 + (1 : Int32)).toNatClampNeg)] [] (c_X11_lamps (gL G) (gD G) (gY G) v1 (xs (v4 + (1 : Int32)).toNatClampNeg) Z I L _ hZ kv1 h) (gwV W_1457 W_1458 W_1459 W_40 W_1456) rfl ⟨rfl, fy_X11_lamps⟩ ⟨by decide, by decide⟩ (c := 11) rfl (by decide) kv1 rfl rfl (Nat.le_of_ble_eq_true rfl) ⟨by show k9 + (jcz Z - jcz Z5) + 0 + 0 ≤ 601024; have := hb.1; omega, by show n9 + (jsz Z - jsz Z5) + 0 + 0 ≤ 7293034; have := hb.2; omega⟩ dL_law_1264 (fun v635 Z636 I637 L638 q639 => ?_)
  obtain ⟨rfl, r641, rfl, h⟩ := q639
  show jJ G 8 1267 [(0, .ref b), (1, .ref v1), (2, .ref v2), (3, .ref v3), (4, .int v4)] [.int r641] Z I637 L638 (k9 + (jcz Z - jcz Z5) + 0) (n9 + (jsz Z - jsz Z5) + 0)
  refine j_pop E dL_law_1267 rfl ?_
  refine j_aload_n E dL_law_1268 2 rfl ?_
  refine j_aload_n E dL_law_1269 0 rfl ?_
  refine j_iload E dL_law_1270 4 rfl ?_
  refine j_iconst E (v := 1) dL_law_1272 (by decide) ?_
  refine j_iadd E dL_law_1273 ?_
  obtain ⟨o642, h⟩ := h
  refine j_sld E hX.1 hX.2.1 hX.2.2 o642 dL_law_1274 ?_
  refine j_callV E [.int (xs (v4 + (1 : Int32)).toNatClampNeg)] [] (c_X12_lamps (gL G) (gD G) (gY G) v2 (xs (v4 + (1 : Int32)).toNatClampNeg) Z I637 L638 _ hZ kv2 h) (gwV W_1461 W_1462 W_1463 W_695 W_1460) rfl ⟨rfl, fy_X12_lamps⟩ ⟨by decide, by decide⟩ (c := 12) rfl (by decide) kv2 rfl rfl (Nat.le_of_ble_eq_true rfl) ⟨by show k9 + (jcz Z - jcz Z5) + 0 + 0 ≤ 601024; have := hb.1; omega, by show n9 + (jsz Z - jsz Z5) + 0 + 0 ≤ 7293034; have := hb.2; omega⟩ dL_law_1275 (fun v643 Z644 I645 L646 q647 => ?_)
  obtain ⟨rfl, r649, rfl, h⟩ := q647
  show jJ G 8 1278 [(0, .ref b), (1, .ref v1), (2, .ref v2), (3, .ref v3), (4, .int v4)] [.int r649] Z I645 L646 (k9 + (jcz Z - jcz Z5) + 0) (n9 + (jsz Z - jsz Z5) + 0)
  refine j_pop E dL_law_1278 rfl ?_
  refine j_goto E 1732 dL_law_1279 (by decide) ?_
  refine j_sub [0, 1, 2, 3, 4] rfl ?_
  refine j_widen (k9 := k9 + (jcz Z - jcz Z5) + 27) (n9 := n9 + (jsz Z - jsz Z5) + 600) (by show k9 + (jcz Z - jcz Z5) + 0 ≤ _; omega) (by show n9 + (jsz Z - jsz Z5) + 0 ≤ _; omega) ?_
  exact m_L_law_b1732 E hX hV hU hl0 hb9 hn9 K23 hK23 v1 v2 v3 v4 Z I645 L646 hZ hx hc hb kv1 kv2 kv3 h
set_option maxRecDepth 100000 in
def f_L_law_b1282 (xs : Nat → Int32) (Ls : Nat) (B : Nat × Nat) (K23 : Nat → Nat → Nat → Int32 → jZ → jI → jL → Prop) (v1 : Nat) (v2 : Nat) (v3 : Nat) (v4 : Int32) (Z : jZ) (I : jI) (L : jL) : Prop := (vp_in (v4 + (1 : Int32)) Ls ∧ (vp_in (v4 + (2 : Int32)) Ls ∧ (f_X11_would B v1 (xs (v4 + (1 : Int32)).toNatClampNeg) (xs (v4 + (2 : Int32)).toNatClampNeg) Z I L (fun r658 Z653 I654 L655 => (vp_in (v4 + (1 : Int32)) Ls ∧ (vp_in (v4 + (2 : Int32)) Ls ∧ (f_X12_would B v2 (xs (v4 + (1 : Int32)).toNatClampNeg) (xs (v4 + (2 : Int32)).toNatClampNeg) Z653 I654 L655 (fun r670 Z665 I666 L667 => f_L_law_b1732 xs Ls B K23 v1 v2 v3 v4 Z665 I666 L667))))))))
set_option maxHeartbeats 4000000 in
set_option maxRecDepth 100000 in
theorem m_L_law_b1282 {G : jG} {Z0 : jZ} {xs : Nat → Int32} {Ls b k9 n9 sa sb : Nat} {B : Nat × Nat} {Z5 : jZ} (E : jE G cL_law RL (Cond.arrayClass .byte :: jT) 8 (some .boolean) room_1 jRL) (hX : va_X b Ls xs (gS G) (gS G).heap ∧ b < (gS G).heap.size ∧ ¬ gA G b) (hV : jV (gA G) (gS G) (gS G).heap) (hU : jU sa sb (gA G) (gS G) (gS G).heap) (hl0 : (gL G).stackTraces = false) (hb9 : k9 + 27 + (B.1 - jcz Z5) ≤ 601024) (hn9 : n9 + 600 + (B.2 - jsz Z5) ≤ 7293034) (K23 : Nat → Nat → Nat → Int32 → jZ → jI → jL → Prop) (hK23 : ∀ (v1 : Nat) (v2 : Nat) (v3 : Nat) (v4 : Int32) (Z : jZ) (I : jI) (L : jL), SH Z → jext Z0 Z → jle Z5 Z → jin B Z → jk Z v1 11 → jk Z v2 12 → jk Z v3 15 → K23 v1 v2 v3 v4 Z I L → jJ G 8 23 [(0, .ref b), (1, .ref v1), (2, .ref v2), (3, .ref v3), (4, .int v4)] [] Z I L (k9 + (jcz Z - jcz Z5) + 27) (n9 + (jsz Z - jsz Z5) + 600)) (v1 : Nat) (v2 : Nat) (v3 : Nat) (v4 : Int32) (Z : jZ) (I : jI) (L : jL) (hZ : SH Z) (hx : jext Z0 Z) (hc : jle Z5 Z) (hb : jin B Z) (kv1 : jk Z v1 11) (kv2 : jk Z v2 12) (kv3 : jk Z v3 15) (h : f_L_law_b1282 xs Ls B K23 v1 v2 v3 v4 Z I L) : jJ G 8 1282 [(0, .ref b), (1, .ref v1), (2, .ref v2), (3, .ref v3), (4, .int v4)] [] Z I L (k9 + (jcz Z - jcz Z5) + 0) (n9 + (jsz Z - jsz Z5) + 0) := by
  unfold f_L_law_b1282 at h
  refine j_aload_n E dL_law_1282 1 rfl ?_
  refine j_aload_n E dL_law_1283 0 rfl ?_
  refine j_iload E dL_law_1284 4 rfl ?_
  refine j_iconst E (v := 1) dL_law_1286 (by decide) ?_
  refine j_iadd E dL_law_1287 ?_
  obtain ⟨o650, h⟩ := h
  refine j_sld E hX.1 hX.2.1 hX.2.2 o650 dL_law_1288 ?_
  refine j_aload_n E dL_law_1289 0 rfl ?_
  refine j_iload E dL_law_1290 4 rfl ?_
  refine j_iconst E (v := 2) dL_law_1292 (by decide) ?_
  refine j_iadd E dL_law_1293 ?_
  obtain ⟨o651, h⟩ := h
  refine j_sld E hX.1 hX.2.1 hX.2.2 o651 dL_law_1294 ?_
  refine ju_callV E [.int (xs (v4 + (1 : Int32)).toNatClampNeg), .int (xs (v4 + (2 : Int32)).toNatClampNeg)] [] (c_X11_would (gL G) (gD G) (gY G) B v1 (xs (v4 + (1 : Int32)).toNatClampNeg) (xs (v4 + (2 : Int32)).toNatClampNeg) Z I L _ hZ hb kv1 h) (gwV W_1465 W_1466 W_1467 W_40 W_1464) rfl ⟨rfl, fy_X11_would⟩ ⟨by decide, by decide⟩ (c := 11) rfl (by decide) kv1 rfl rfl (Nat.le_of_ble_eq_true rfl) ⟨by show k9 + (jcz Z - jcz Z5) + 0 + (B.1 - jcz Z) ≤ 601024; have := hb.1; have := hc.1; omega, by show n9 + (jsz Z - jsz Z5) + 0 + (B.2 - jsz Z) ≤ 7293034; have := hb.2; have := hc.2; omega⟩ dL_law_1295 (fun v652 Z653 I654 L655 q656 j657 => ?_)
  refine j_kn (k' := k9 + (jcz Z653 - jcz Z5) + 0) (n' := n9 + (jsz Z653 - jsz Z5) + 0) (by have := hc.1; have := j657.1; omega) (by have := hc.2; have := j657.2; omega) ?_
  have hc := jle_trans hc j657
  obtain ⟨yZ653, hZ653, hbZ653, r658, rfl, h⟩ := q656
  have hZ := hZ653
  have hx : jext Z0 Z653 := jext_trans hx yZ653
  have hb := hbZ653
  have k659 := (yZ653 _ _ kv1).1
  have k660 := (yZ653 _ _ kv2).1
  have k661 := (yZ653 _ _ kv3).1
  show jJ G 8 1298 [(0, .ref b), (1, .ref v1), (2, .ref v2), (3, .ref v3), (4, .int v4)] [.int r658] Z653 I654 L655 (k9 + (jcz Z653 - jcz Z5) + 0) (n9 + (jsz Z653 - jsz Z5) + 0)
  refine j_pop E dL_law_1298 rfl ?_
  refine j_aload_n E dL_law_1299 2 rfl ?_
  refine j_aload_n E dL_law_1300 0 rfl ?_
  refine j_iload E dL_law_1301 4 rfl ?_
  refine j_iconst E (v := 1) dL_law_1303 (by decide) ?_
  refine j_iadd E dL_law_1304 ?_
  obtain ⟨o662, h⟩ := h
  refine j_sld E hX.1 hX.2.1 hX.2.2 o662 dL_law_1305 ?_
  refine j_aload_n E dL_law_1306 0 rfl ?_
  refine j_iload E dL_law_1307 4 rfl ?_
  refine j_iconst E (v := 2) dL_law_1309 (by decide) ?_
  refine j_iadd E dL_law_1310 ?_
  obtain ⟨o663, h⟩ := h
  refine j_sld E hX.1 hX.2.1 hX.2.2 o663 dL_law_1311 ?_
  refine ju_callV E [.int (xs (v4 + (1 : Int32)).toNatClampNeg), .int (xs (v4 + (2 : Int32)).toNatClampNeg)] [] (c_X12_would (gL G) (gD G) (gY G) B v2 (xs (v4 + (1 : Int32)).toNatClampNeg) (xs (v4 + (2 : Int32)).toNatClampNeg) Z653 I654 L655 _ hZ hb k660 h) (gwV W_1469 W_1470 W_1471 W_695 W_1468) rfl ⟨rfl, fy_X12_would⟩ ⟨by decide, by decide⟩ (c := 12) rfl (by decide) k660 rfl rfl (Nat.le_of_ble_eq_true rfl) ⟨by show k9 + (jcz Z653 - jcz Z5) + 0 + (B.1 - jcz Z653) ≤ 601024; have := hb.1; have := hc.1; omega, by show n9 + (jsz Z653 - jsz Z5) + 0 + (B.2 - jsz Z653) ≤ 7293034; have := hb.2; have := hc.2; omega⟩ dL_law_1312 (fun v664 Z665 I666 L667 q668 j669 => ?_)
  refine j_kn (k' := k9 + (jcz Z665 - jcz Z5) + 0) (n' := n9 + (jsz Z665 - jsz Z5) + 0) (by have := hc.1; have := j669.1; omega) (by have := hc.2; have := j669.2; omega) ?_
  have hc := jle_trans hc j669
  obtain ⟨yZ665, hZ665, hbZ665, r670, rfl, h⟩ := q668
  have hZ := hZ665
  have hx : jext Z0 Z665 := jext_trans hx yZ665
  have hb := hbZ665
  have k671 := (yZ665 _ _ k659).1
  have k672 := (yZ665 _ _ k660).1
  have k673 := (yZ665 _ _ k661).1
  show jJ G 8 1315 [(0, .ref b), (1, .ref v1), (2, .ref v2), (3, .ref v3), (4, .int v4)] [.int r670] Z665 I666 L667 (k9 + (jcz Z665 - jcz Z5) + 0) (n9 + (jsz Z665 - jsz Z5) + 0)
  refine j_pop E dL_law_1315 rfl ?_
  refine j_goto E 1732 dL_law_1316 (by decide) ?_
  refine j_sub [0, 1, 2, 3, 4] rfl ?_
  refine j_widen (k9 := k9 + (jcz Z665 - jcz Z5) + 27) (n9 := n9 + (jsz Z665 - jsz Z5) + 600) (by show k9 + (jcz Z665 - jcz Z5) + 0 ≤ _; omega) (by show n9 + (jsz Z665 - jsz Z5) + 0 ≤ _; omega) ?_
  exact m_L_law_b1732 E hX hV hU hl0 hb9 hn9 K23 hK23 v1 v2 v3 v4 Z665 I666 L667 hZ hx hc hb k671 k672 k673 h
set_option maxRecDepth 100000 in
def f_L_law_b1319 (xs : Nat → Int32) (Ls : Nat) (B : Nat × Nat) (K23 : Nat → Nat → Nat → Int32 → jZ → jI → jL → Prop) (v1 : Nat) (v2 : Nat) (v3 : Nat) (v4 : Int32) (Z : jZ) (I : jI) (L : jL) : Prop := (vp_in (v4 + (1 : Int32)) Ls ∧ (f_X11_best B v1 (xs (v4 + (1 : Int32)).toNatClampNeg) Z I L (fun r681 Z676 I677 L678 => (vp_in (v4 + (1 : Int32)) Ls ∧ (f_X12_best B v2 (xs (v4 + (1 : Int32)).toNatClampNeg) Z676 I677 L678 (fun r692 Z687 I688 L689 => f_L_law_b1732 xs Ls B K23 v1 v2 v3 v4 Z687 I688 L689))))))
set_option maxHeartbeats 4000000 in
set_option maxRecDepth 100000 in
theorem m_L_law_b1319 {G : jG} {Z0 : jZ} {xs : Nat → Int32} {Ls b k9 n9 sa sb : Nat} {B : Nat × Nat} {Z5 : jZ} (E : jE G cL_law RL (Cond.arrayClass .byte :: jT) 8 (some .boolean) room_1 jRL) (hX : va_X b Ls xs (gS G) (gS G).heap ∧ b < (gS G).heap.size ∧ ¬ gA G b) (hV : jV (gA G) (gS G) (gS G).heap) (hU : jU sa sb (gA G) (gS G) (gS G).heap) (hl0 : (gL G).stackTraces = false) (hb9 : k9 + 27 + (B.1 - jcz Z5) ≤ 601024) (hn9 : n9 + 600 + (B.2 - jsz Z5) ≤ 7293034) (K23 : Nat → Nat → Nat → Int32 → jZ → jI → jL → Prop) (hK23 : ∀ (v1 : Nat) (v2 : Nat) (v3 : Nat) (v4 : Int32) (Z : jZ) (I : jI) (L : jL), SH Z → jext Z0 Z → jle Z5 Z → jin B Z → jk Z v1 11 → jk Z v2 12 → jk Z v3 15 → K23 v1 v2 v3 v4 Z I L → jJ G 8 23 [(0, .ref b), (1, .ref v1), (2, .ref v2), (3, .ref v3), (4, .int v4)] [] Z I L (k9 + (jcz Z - jcz Z5) + 27) (n9 + (jsz Z - jsz Z5) + 600)) (v1 : Nat) (v2 : Nat) (v3 : Nat) (v4 : Int32) (Z : jZ) (I : jI) (L : jL) (hZ : SH Z) (hx : jext Z0 Z) (hc : jle Z5 Z) (hb : jin B Z) (kv1 : jk Z v1 11) (kv2 : jk Z v2 12) (kv3 : jk Z v3 15) (h : f_L_law_b1319 xs Ls B K23 v1 v2 v3 v4 Z I L) : jJ G 8 1319 [(0, .ref b), (1, .ref v1), (2, .ref v2), (3, .ref v3), (4, .int v4)] [] Z I L (k9 + (jcz Z - jcz Z5) + 0) (n9 + (jsz Z - jsz Z5) + 0) := by
  unfold f_L_law_b1319 at h
  refine j_aload_n E dL_law_1319 1 rfl ?_
  refine j_aload_n E dL_law_1320 0 rfl ?_
  refine j_iload E dL_law_1321 4 rfl ?_
  refine j_iconst E (v := 1) dL_law_1323 (by decide) ?_
  refine j_iadd E dL_law_1324 ?_
  obtain ⟨o674, h⟩ := h
  refine j_sld E hX.1 hX.2.1 hX.2.2 o674 dL_law_1325 ?_
  refine ju_callV E [.int (xs (v4 + (1 : Int32)).toNatClampNeg)] [] (c_X11_best (gL G) (gD G) (gY G) B v1 (xs (v4 + (1 : Int32)).toNatClampNeg) Z I L _ hZ hb kv1 h) (gwV W_1473 W_1474 W_1475 W_40 W_1472) rfl ⟨rfl, fy_X11_best⟩ ⟨by decide, by decide⟩ (c := 11) rfl (by decide) kv1 rfl rfl (Nat.le_of_ble_eq_true rfl) ⟨by show k9 + (jcz Z - jcz Z5) + 0 + (B.1 - jcz Z) ≤ 601024; have := hb.1; have := hc.1; omega, by show n9 + (jsz Z - jsz Z5) + 0 + (B.2 - jsz Z) ≤ 7293034; have := hb.2; have := hc.2; omega⟩ dL_law_1326 (fun v675 Z676 I677 L678 q679 j680 => ?_)
  refine j_kn (k' := k9 + (jcz Z676 - jcz Z5) + 0) (n' := n9 + (jsz Z676 - jsz Z5) + 0) (by have := hc.1; have := j680.1; omega) (by have := hc.2; have := j680.2; omega) ?_
  have hc := jle_trans hc j680
  obtain ⟨yZ676, hZ676, hbZ676, r681, rfl, h⟩ := q679
  have hZ := hZ676
  have hx : jext Z0 Z676 := jext_trans hx yZ676
  have hb := hbZ676
  have k682 := (yZ676 _ _ kv1).1
  have k683 := (yZ676 _ _ kv2).1
  have k684 := (yZ676 _ _ kv3).1
  show jJ G 8 1329 [(0, .ref b), (1, .ref v1), (2, .ref v2), (3, .ref v3), (4, .int v4)] [.int r681] Z676 I677 L678 (k9 + (jcz Z676 - jcz Z5) + 0) (n9 + (jsz Z676 - jsz Z5) + 0)
  refine j_pop E dL_law_1329 rfl ?_
  refine j_aload_n E dL_law_1330 2 rfl ?_
  refine j_aload_n E dL_law_1331 0 rfl ?_
  refine j_iload E dL_law_1332 4 rfl ?_
  refine j_iconst E (v := 1) dL_law_1334 (by decide) ?_
  refine j_iadd E dL_law_1335 ?_
  obtain ⟨o685, h⟩ := h
  refine j_sld E hX.1 hX.2.1 hX.2.2 o685 dL_law_1336 ?_
  refine ju_callV E [.int (xs (v4 + (1 : Int32)).toNatClampNeg)] [] (c_X12_best (gL G) (gD G) (gY G) B v2 (xs (v4 + (1 : Int32)).toNatClampNeg) Z676 I677 L678 _ hZ hb k683 h) (gwV W_1477 W_1478 W_1479 W_695 W_1476) rfl ⟨rfl, fy_X12_best⟩ ⟨by decide, by decide⟩ (c := 12) rfl (by decide) k683 rfl rfl (Nat.le_of_ble_eq_true rfl) ⟨by show k9 + (jcz Z676 - jcz Z5) + 0 + (B.1 - jcz Z676) ≤ 601024; have := hb.1; have := hc.1; omega, by show n9 + (jsz Z676 - jsz Z5) + 0 + (B.2 - jsz Z676) ≤ 7293034; have := hb.2; have := hc.2; omega⟩ dL_law_1337 (fun v686 Z687 I688 L689 q690 j691 => ?_)
  refine j_kn (k' := k9 + (jcz Z687 - jcz Z5) + 0) (n' := n9 + (jsz Z687 - jsz Z5) + 0) (by have := hc.1; have := j691.1; omega) (by have := hc.2; have := j691.2; omega) ?_
  have hc := jle_trans hc j691
  obtain ⟨yZ687, hZ687, hbZ687, r692, rfl, h⟩ := q690
  have hZ := hZ687
  have hx : jext Z0 Z687 := jext_trans hx yZ687
  have hb := hbZ687
  have k693 := (yZ687 _ _ k682).1
  have k694 := (yZ687 _ _ k683).1
  have k695 := (yZ687 _ _ k684).1
  show jJ G 8 1340 [(0, .ref b), (1, .ref v1), (2, .ref v2), (3, .ref v3), (4, .int v4)] [.int r692] Z687 I688 L689 (k9 + (jcz Z687 - jcz Z5) + 0) (n9 + (jsz Z687 - jsz Z5) + 0)
  refine j_pop E dL_law_1340 rfl ?_
  refine j_goto E 1732 dL_law_1341 (by decide) ?_
  refine j_sub [0, 1, 2, 3, 4] rfl ?_
  refine j_widen (k9 := k9 + (jcz Z687 - jcz Z5) + 27) (n9 := n9 + (jsz Z687 - jsz Z5) + 600) (by show k9 + (jcz Z687 - jcz Z5) + 0 ≤ _; omega) (by show n9 + (jsz Z687 - jsz Z5) + 0 ≤ _; omega) ?_
  exact m_L_law_b1732 E hX hV hU hl0 hb9 hn9 K23 hK23 v1 v2 v3 v4 Z687 I688 L689 hZ hx hc hb k693 k694 k695 h
set_option maxRecDepth 100000 in
def f_L_law_b1344 (xs : Nat → Int32) (Ls : Nat) (B : Nat × Nat) (K23 : Nat → Nat → Nat → Int32 → jZ → jI → jL → Prop) (v1 : Nat) (v2 : Nat) (v3 : Nat) (v4 : Int32) (Z : jZ) (I : jI) (L : jL) : Prop := (vp_in (v4 + (1 : Int32)) Ls ∧ (f_X11_market B v1 (xs (v4 + (1 : Int32)).toNatClampNeg) Z I L (fun r703 Z698 I699 L700 => (vp_in (v4 + (1 : Int32)) Ls ∧ (f_X12_market B v2 (xs (v4 + (1 : Int32)).toNatClampNeg) Z698 I699 L700 (fun r714 Z709 I710 L711 => f_L_law_b1732 xs Ls B K23 v1 v2 v3 v4 Z709 I710 L711))))))
set_option maxHeartbeats 4000000 in
set_option maxRecDepth 100000 in
theorem m_L_law_b1344 {G : jG} {Z0 : jZ} {xs : Nat → Int32} {Ls b k9 n9 sa sb : Nat} {B : Nat × Nat} {Z5 : jZ} (E : jE G cL_law RL (Cond.arrayClass .byte :: jT) 8 (some .boolean) room_1 jRL) (hX : va_X b Ls xs (gS G) (gS G).heap ∧ b < (gS G).heap.size ∧ ¬ gA G b) (hV : jV (gA G) (gS G) (gS G).heap) (hU : jU sa sb (gA G) (gS G) (gS G).heap) (hl0 : (gL G).stackTraces = false) (hb9 : k9 + 27 + (B.1 - jcz Z5) ≤ 601024) (hn9 : n9 + 600 + (B.2 - jsz Z5) ≤ 7293034) (K23 : Nat → Nat → Nat → Int32 → jZ → jI → jL → Prop) (hK23 : ∀ (v1 : Nat) (v2 : Nat) (v3 : Nat) (v4 : Int32) (Z : jZ) (I : jI) (L : jL), SH Z → jext Z0 Z → jle Z5 Z → jin B Z → jk Z v1 11 → jk Z v2 12 → jk Z v3 15 → K23 v1 v2 v3 v4 Z I L → jJ G 8 23 [(0, .ref b), (1, .ref v1), (2, .ref v2), (3, .ref v3), (4, .int v4)] [] Z I L (k9 + (jcz Z - jcz Z5) + 27) (n9 + (jsz Z - jsz Z5) + 600)) (v1 : Nat) (v2 : Nat) (v3 : Nat) (v4 : Int32) (Z : jZ) (I : jI) (L : jL) (hZ : SH Z) (hx : jext Z0 Z) (hc : jle Z5 Z) (hb : jin B Z) (kv1 : jk Z v1 11) (kv2 : jk Z v2 12) (kv3 : jk Z v3 15) (h : f_L_law_b1344 xs Ls B K23 v1 v2 v3 v4 Z I L) : jJ G 8 1344 [(0, .ref b), (1, .ref v1), (2, .ref v2), (3, .ref v3), (4, .int v4)] [] Z I L (k9 + (jcz Z - jcz Z5) + 0) (n9 + (jsz Z - jsz Z5) + 0) := by
  unfold f_L_law_b1344 at h
  refine j_aload_n E dL_law_1344 1 rfl ?_
  refine j_aload_n E dL_law_1345 0 rfl ?_
  refine j_iload E dL_law_1346 4 rfl ?_
  refine j_iconst E (v := 1) dL_law_1348 (by decide) ?_
  refine j_iadd E dL_law_1349 ?_
  obtain ⟨o696, h⟩ := h
  refine j_sld E hX.1 hX.2.1 hX.2.2 o696 dL_law_1350 ?_
  refine ju_callV E [.int (xs (v4 + (1 : Int32)).toNatClampNeg)] [] (c_X11_market (gL G) (gD G) (gY G) B v1 (xs (v4 + (1 : Int32)).toNatClampNeg) Z I L _ hZ hb kv1 h) (gwV W_1481 W_1482 W_1483 W_40 W_1480) rfl ⟨rfl, fy_X11_market⟩ ⟨by decide, by decide⟩ (c := 11) rfl (by decide) kv1 rfl rfl (Nat.le_of_ble_eq_true rfl) ⟨by show k9 + (jcz Z - jcz Z5) + 0 + (B.1 - jcz Z) ≤ 601024; have := hb.1; have := hc.1; omega, by show n9 + (jsz Z - jsz Z5) + 0 + (B.2 - jsz Z) ≤ 7293034; have := hb.2; have := hc.2; omega⟩ dL_law_1351 (fun v697 Z698 I699 L700 q701 j702 => ?_)
  refine j_kn (k' := k9 + (jcz Z698 - jcz Z5) + 0) (n' := n9 + (jsz Z698 - jsz Z5) + 0) (by have := hc.1; have := j702.1; omega) (by have := hc.2; have := j702.2; omega) ?_
  have hc := jle_trans hc j702
  obtain ⟨yZ698, hZ698, hbZ698, r703, rfl, h⟩ := q701
  have hZ := hZ698
  have hx : jext Z0 Z698 := jext_trans hx yZ698
  have hb := hbZ698
  have k704 := (yZ698 _ _ kv1).1
  have k705 := (yZ698 _ _ kv2).1
  have k706 := (yZ698 _ _ kv3).1
  show jJ G 8 1354 [(0, .ref b), (1, .ref v1), (2, .ref v2), (3, .ref v3), (4, .int v4)] [.int r703] Z698 I699 L700 (k9 + (jcz Z698 - jcz Z5) + 0) (n9 + (jsz Z698 - jsz Z5) + 0)
  refine j_pop E dL_law_1354 rfl ?_
  refine j_aload_n E dL_law_1355 2 rfl ?_
  refine j_aload_n E dL_law_1356 0 rfl ?_
  refine j_iload E dL_law_1357 4 rfl ?_
  refine j_iconst E (v := 1) dL_law_1359 (by decide) ?_
  refine j_iadd E dL_law_1360 ?_
  obtain ⟨o707, h⟩ := h
  refine j_sld E hX.1 hX.2.1 hX.2.2 o707 dL_law_1361 ?_
  refine ju_callV E [.int (xs (v4 + (1 : Int32)).toNatClampNeg)] [] (c_X12_market (gL G) (gD G) (gY G) B v2 (xs (v4 + (1 : Int32)).toNatClampNeg) Z698 I699 L700 _ hZ hb k705 h) (gwV W_1485 W_1486 W_1487 W_695 W_1484) rfl ⟨rfl, fy_X12_market⟩ ⟨by decide, by decide⟩ (c := 12) rfl (by decide) k705 rfl rfl (Nat.le_of_ble_eq_true rfl) ⟨by show k9 + (jcz Z698 - jcz Z5) + 0 + (B.1 - jcz Z698) ≤ 601024; have := hb.1; have := hc.1; omega, by show n9 + (jsz Z698 - jsz Z5) + 0 + (B.2 - jsz Z698) ≤ 7293034; have := hb.2; have := hc.2; omega⟩ dL_law_1362 (fun v708 Z709 I710 L711 q712 j713 => ?_)
  refine j_kn (k' := k9 + (jcz Z709 - jcz Z5) + 0) (n' := n9 + (jsz Z709 - jsz Z5) + 0) (by have := hc.1; have := j713.1; omega) (by have := hc.2; have := j713.2; omega) ?_
  have hc := jle_trans hc j713
  obtain ⟨yZ709, hZ709, hbZ709, r714, rfl, h⟩ := q712
  have hZ := hZ709
  have hx : jext Z0 Z709 := jext_trans hx yZ709
  have hb := hbZ709
  have k715 := (yZ709 _ _ k704).1
  have k716 := (yZ709 _ _ k705).1
  have k717 := (yZ709 _ _ k706).1
  show jJ G 8 1365 [(0, .ref b), (1, .ref v1), (2, .ref v2), (3, .ref v3), (4, .int v4)] [.int r714] Z709 I710 L711 (k9 + (jcz Z709 - jcz Z5) + 0) (n9 + (jsz Z709 - jsz Z5) + 0)
  refine j_pop E dL_law_1365 rfl ?_
  refine j_goto E 1732 dL_law_1366 (by decide) ?_
  refine j_sub [0, 1, 2, 3, 4] rfl ?_
  refine j_widen (k9 := k9 + (jcz Z709 - jcz Z5) + 27) (n9 := n9 + (jsz Z709 - jsz Z5) + 600) (by show k9 + (jcz Z709 - jcz Z5) + 0 ≤ _; omega) (by show n9 + (jsz Z709 - jsz Z5) + 0 ≤ _; omega) ?_
  exact m_L_law_b1732 E hX hV hU hl0 hb9 hn9 K23 hK23 v1 v2 v3 v4 Z709 I710 L711 hZ hx hc hb k715 k716 k717 h
set_option maxRecDepth 100000 in
def f_L_law_b1369 (xs : Nat → Int32) (Ls : Nat) (B : Nat × Nat) (K23 : Nat → Nat → Nat → Int32 → jZ → jI → jL → Prop) (v1 : Nat) (v2 : Nat) (v3 : Nat) (v4 : Int32) (Z : jZ) (I : jI) (L : jL) : Prop := (vp_in (v4 + (1 : Int32)) Ls ∧ (vp_in (v4 + (2 : Int32)) Ls ∧ (f_X11_parts v1 (xs (v4 + (1 : Int32)).toNatClampNeg) (xs (v4 + (2 : Int32)).toNatClampNeg) Z I L (fun r726 I722 L723 => (vp_in (v4 + (1 : Int32)) Ls ∧ (vp_in (v4 + (2 : Int32)) Ls ∧ (f_X12_parts v2 (xs (v4 + (1 : Int32)).toNatClampNeg) (xs (v4 + (2 : Int32)).toNatClampNeg) Z I722 L723 (fun r735 I731 L732 => f_L_law_b1732 xs Ls B K23 v1 v2 v3 v4 Z I731 L732))))))))
set_option maxHeartbeats 4000000 in
set_option maxRecDepth 100000 in
theorem m_L_law_b1369 {G : jG} {Z0 : jZ} {xs : Nat → Int32} {Ls b k9 n9 sa sb : Nat} {B : Nat × Nat} {Z5 : jZ} (E : jE G cL_law RL (Cond.arrayClass .byte :: jT) 8 (some .boolean) room_1 jRL) (hX : va_X b Ls xs (gS G) (gS G).heap ∧ b < (gS G).heap.size ∧ ¬ gA G b) (hV : jV (gA G) (gS G) (gS G).heap) (hU : jU sa sb (gA G) (gS G) (gS G).heap) (hl0 : (gL G).stackTraces = false) (hb9 : k9 + 27 + (B.1 - jcz Z5) ≤ 601024) (hn9 : n9 + 600 + (B.2 - jsz Z5) ≤ 7293034) (K23 : Nat → Nat → Nat → Int32 → jZ → jI → jL → Prop) (hK23 : ∀ (v1 : Nat) (v2 : Nat) (v3 : Nat) (v4 : Int32) (Z : jZ) (I : jI) (L : jL), SH Z → jext Z0 Z → jle Z5 Z → jin B Z → jk Z v1 11 → jk Z v2 12 → jk Z v3 15 → K23 v1 v2 v3 v4 Z I L → jJ G 8 23 [(0, .ref b), (1, .ref v1), (2, .ref v2), (3, .ref v3), (4, .int v4)] [] Z I L (k9 + (jcz Z - jcz Z5) + 27) (n9 + (jsz Z - jsz Z5) + 600)) (v1 : Nat) (v2 : Nat) (v3 : Nat) (v4 : Int32) (Z : jZ) (I : jI) (L : jL) (hZ : SH Z) (hx : jext Z0 Z) (hc : jle Z5 Z) (hb : jin B Z) (kv1 : jk Z v1 11) (kv2 : jk Z v2 12) (kv3 : jk Z v3 15) (h : f_L_law_b1369 xs Ls B K23 v1 v2 v3 v4 Z I L) : jJ G 8 1369 [(0, .ref b), (1, .ref v1), (2, .ref v2), (3, .ref v3), (4, .int v4)] [] Z I L (k9 + (jcz Z - jcz Z5) + 0) (n9 + (jsz Z - jsz Z5) + 0) := by
  unfold f_L_law_b1369 at h
  refine j_aload_n E dL_law_1369 1 rfl ?_
  refine j_aload_n E dL_law_1370 0 rfl ?_
  refine j_iload E dL_law_1371 4 rfl ?_
  refine j_iconst E (v := 1) dL_law_1373 (by decide) ?_
  refine j_iadd E dL_law_1374 ?_
  obtain ⟨o718, h⟩ := h
  refine j_sld E hX.1 hX.2.1 hX.2.2 o718 dL_law_1375 ?_
  refine j_aload_n E dL_law_1376 0 rfl ?_
  refine j_iload E dL_law_1377 4 rfl ?_
  refine j_iconst E (v := 2) dL_law_1379 (by decide) ?_
  refine j_iadd E dL_law_1380 ?_
  obtain ⟨o719, h⟩ := h
  refine j_sld E hX.1 hX.2.1 hX.2.2 o719 dL_law_1381 ?_
  refine j_callV E [.int (xs (v4 + (1 : Int32)).toNatClampNeg), .int (xs (v4 + (2 : Int32)).toNatClampNeg)] [] (c_X11_parts (gL G) (gD G) (gY G) v1 (xs (v4 + (1 : Int32)).toNatClampNeg) (xs (v4 + (2 : Int32)).toNatClampNeg) Z I L _ hZ kv1 h) (gwV W_1489 W_1490 W_1491 W_40 W_1488) rfl ⟨rfl, fy_X11_parts⟩ ⟨by decide, by decide⟩ (c := 11) rfl (by decide) kv1 rfl rfl (Nat.le_of_ble_eq_true rfl) ⟨by show k9 + (jcz Z - jcz Z5) + 0 + 0 ≤ 601024; have := hb.1; omega, by show n9 + (jsz Z - jsz Z5) + 0 + 0 ≤ 7293034; have := hb.2; omega⟩ dL_law_1382 (fun v720 Z721 I722 L723 q724 => ?_)
  obtain ⟨rfl, r726, rfl, h⟩ := q724
  show jJ G 8 1385 [(0, .ref b), (1, .ref v1), (2, .ref v2), (3, .ref v3), (4, .int v4)] [.int r726] Z I722 L723 (k9 + (jcz Z - jcz Z5) + 0) (n9 + (jsz Z - jsz Z5) + 0)
  refine j_pop E dL_law_1385 rfl ?_
  refine j_aload_n E dL_law_1386 2 rfl ?_
  refine j_aload_n E dL_law_1387 0 rfl ?_
  refine j_iload E dL_law_1388 4 rfl ?_
  refine j_iconst E (v := 1) dL_law_1390 (by decide) ?_
  refine j_iadd E dL_law_1391 ?_
  obtain ⟨o727, h⟩ := h
  refine j_sld E hX.1 hX.2.1 hX.2.2 o727 dL_law_1392 ?_
  refine j_aload_n E dL_law_1393 0 rfl ?_
  refine j_iload E dL_law_1394 4 rfl ?_
  refine j_iconst E (v := 2) dL_law_1396 (by decide) ?_
  refine j_iadd E dL_law_1397 ?_
  obtain ⟨o728, h⟩ := h
  refine j_sld E hX.1 hX.2.1 hX.2.2 o728 dL_law_1398 ?_
  refine j_callV E [.int (xs (v4 + (1 : Int32)).toNatClampNeg), .int (xs (v4 + (2 : Int32)).toNatClampNeg)] [] (c_X12_parts (gL G) (gD G) (gY G) v2 (xs (v4 + (1 : Int32)).toNatClampNeg) (xs (v4 + (2 : Int32)).toNatClampNeg) Z I722 L723 _ hZ kv2 h) (gwV W_1493 W_1494 W_1495 W_695 W_1492) rfl ⟨rfl, fy_X12_parts⟩ ⟨by decide, by decide⟩ (c := 12) rfl (by decide) kv2 rfl rfl (Nat.le_of_ble_eq_true rfl) ⟨by show k9 + (jcz Z - jcz Z5) + 0 + 0 ≤ 601024; have := hb.1; omega, by show n9 + (jsz Z - jsz Z5) + 0 + 0 ≤ 7293034; have := hb.2; omega⟩ dL_law_1399 (fun v729 Z730 I731 L732 q733 => ?_)
  obtain ⟨rfl, r735, rfl, h⟩ := q733
  show jJ G 8 1402 [(0, .ref b), (1, .ref v1), (2, .ref v2), (3, .ref v3), (4, .int v4)] [.int r735] Z I731 L732 (k9 + (jcz Z - jcz Z5) + 0) (n9 + (jsz Z - jsz Z5) + 0)
  refine j_pop E dL_law_1402 rfl ?_
  refine j_goto E 1732 dL_law_1403 (by decide) ?_
  refine j_sub [0, 1, 2, 3, 4] rfl ?_
  refine j_widen (k9 := k9 + (jcz Z - jcz Z5) + 27) (n9 := n9 + (jsz Z - jsz Z5) + 600) (by show k9 + (jcz Z - jcz Z5) + 0 ≤ _; omega) (by show n9 + (jsz Z - jsz Z5) + 0 ≤ _; omega) ?_
  exact m_L_law_b1732 E hX hV hU hl0 hb9 hn9 K23 hK23 v1 v2 v3 v4 Z I731 L732 hZ hx hc hb kv1 kv2 kv3 h
set_option maxRecDepth 100000 in
def f_L_law_b1406 (xs : Nat → Int32) (Ls : Nat) (B : Nat × Nat) (K23 : Nat → Nat → Nat → Int32 → jZ → jI → jL → Prop) (v1 : Nat) (v2 : Nat) (v3 : Nat) (v4 : Int32) (Z : jZ) (I : jI) (L : jL) : Prop := (vp_in (v4 + (1 : Int32)) Ls ∧ (vp_in (v4 + (2 : Int32)) Ls ∧ (vp_in (v4 + (3 : Int32)) Ls ∧ (vp_in (v4 + (4 : Int32)) Ls ∧ (vp_in (v4 + (5 : Int32)) Ls ∧ (f_X11_sells v1 (xs (v4 + (1 : Int32)).toNatClampNeg) (xs (v4 + (2 : Int32)).toNatClampNeg) (xs (v4 + (3 : Int32)).toNatClampNeg) (xs (v4 + (4 : Int32)).toNatClampNeg) (xs (v4 + (5 : Int32)).toNatClampNeg) Z I L (fun r747 I743 L744 => (vp_in (v4 + (1 : Int32)) Ls ∧ (vp_in (v4 + (2 : Int32)) Ls ∧ (vp_in (v4 + (3 : Int32)) Ls ∧ (vp_in (v4 + (4 : Int32)) Ls ∧ (vp_in (v4 + (5 : Int32)) Ls ∧ (f_X12_sells v2 (xs (v4 + (1 : Int32)).toNatClampNeg) (xs (v4 + (2 : Int32)).toNatClampNeg) (xs (v4 + (3 : Int32)).toNatClampNeg) (xs (v4 + (4 : Int32)).toNatClampNeg) (xs (v4 + (5 : Int32)).toNatClampNeg) Z I743 L744 (fun r759 I755 L756 => f_L_law_b1732 xs Ls B K23 v1 v2 v3 v4 Z I755 L756))))))))))))))
set_option maxHeartbeats 4000000 in
set_option maxRecDepth 100000 in
theorem m_L_law_b1406 {G : jG} {Z0 : jZ} {xs : Nat → Int32} {Ls b k9 n9 sa sb : Nat} {B : Nat × Nat} {Z5 : jZ} (E : jE G cL_law RL (Cond.arrayClass .byte :: jT) 8 (some .boolean) room_1 jRL) (hX : va_X b Ls xs (gS G) (gS G).heap ∧ b < (gS G).heap.size ∧ ¬ gA G b) (hV : jV (gA G) (gS G) (gS G).heap) (hU : jU sa sb (gA G) (gS G) (gS G).heap) (hl0 : (gL G).stackTraces = false) (hb9 : k9 + 27 + (B.1 - jcz Z5) ≤ 601024) (hn9 : n9 + 600 + (B.2 - jsz Z5) ≤ 7293034) (K23 : Nat → Nat → Nat → Int32 → jZ → jI → jL → Prop) (hK23 : ∀ (v1 : Nat) (v2 : Nat) (v3 : Nat) (v4 : Int32) (Z : jZ) (I : jI) (L : jL), SH Z → jext Z0 Z → jle Z5 Z → jin B Z → jk Z v1 11 → jk Z v2 12 → jk Z v3 15 → K23 v1 v2 v3 v4 Z I L → jJ G 8 23 [(0, .ref b), (1, .ref v1), (2, .ref v2), (3, .ref v3), (4, .int v4)] [] Z I L (k9 + (jcz Z - jcz Z5) + 27) (n9 + (jsz Z - jsz Z5) + 600)) (v1 : Nat) (v2 : Nat) (v3 : Nat) (v4 : Int32) (Z : jZ) (I : jI) (L : jL) (hZ : SH Z) (hx : jext Z0 Z) (hc : jle Z5 Z) (hb : jin B Z) (kv1 : jk Z v1 11) (kv2 : jk Z v2 12) (kv3 : jk Z v3 15) (h : f_L_law_b1406 xs Ls B K23 v1 v2 v3 v4 Z I L) : jJ G 8 1406 [(0, .ref b), (1, .ref v1), (2, .ref v2), (3, .ref v3), (4, .int v4)] [] Z I L (k9 + (jcz Z - jcz Z5) + 0) (n9 + (jsz Z - jsz Z5) + 0) := by
  unfold f_L_law_b1406 at h
  refine j_aload_n E dL_law_1406 1 rfl ?_
  refine j_aload_n E dL_law_1407 0 rfl ?_
  refine j_iload E dL_law_1408 4 rfl ?_
  refine j_iconst E (v := 1) dL_law_1410 (by decide) ?_
  refine j_iadd E dL_law_1411 ?_
  obtain ⟨o736, h⟩ := h
  refine j_sld E hX.1 hX.2.1 hX.2.2 o736 dL_law_1412 ?_
  refine j_aload_n E dL_law_1413 0 rfl ?_
  refine j_iload E dL_law_1414 4 rfl ?_
  refine j_iconst E (v := 2) dL_law_1416 (by decide) ?_
  refine j_iadd E dL_law_1417 ?_
  obtain ⟨o737, h⟩ := h
  refine j_sld E hX.1 hX.2.1 hX.2.2 o737 dL_law_1418 ?_
  refine j_aload_n E dL_law_1419 0 rfl ?_
  refine j_iload E dL_law_1420 4 rfl ?_
  refine j_iconst E (v := 3) dL_law_1422 (by decide) ?_
  refine j_iadd E dL_law_1423 ?_
  obtain ⟨o738, h⟩ := h
  refine j_sld E hX.1 hX.2.1 hX.2.2 o738 dL_law_1424 ?_
  refine j_aload_n E dL_law_1425 0 rfl ?_
  refine j_iload E dL_law_1426 4 rfl ?_
  refine j_iconst E (v := 4) dL_law_1428 (by decide) ?_
  refine j_iadd E dL_law_1429 ?_
  obtain ⟨o739, h⟩ := h
  refine j_sld E hX.1 hX.2.1 hX.2.2 o739 dL_law_1430 ?_
  refine j_aload_n E dL_law_1431 0 rfl ?_
  refine j_iload E dL_law_1432 4 rfl ?_
  refine j_iconst E (v := 5) dL_law_1434 (by decide) ?_
  refine j_iadd E dL_law_1435 ?_
  obtain ⟨o740, h⟩ := h
  refine j_sld E hX.1 hX.2.1 hX.2.2 o740 dL_law_1436 ?_
  refine j_callV E [.int (xs (v4 + (1 : Int32)).toNatClampNeg), .int (xs (v4 + (2 : Int32)).toNatClampNeg), .int (xs (v4 + (3 : Int32)).toNatClampNeg), .int (xs (v4 + (4 : Int32)).toNatClampNeg), .int (xs (v4 + (5 : Int32)).toNatClampNeg)] [] (c_X11_sells (gL G) (gD G) (gY G) v1 (xs (v4 + (1 : Int32)).toNatClampNeg) (xs (v4 + (2 : Int32)).toNatClampNeg) (xs (v4 + (3 : Int32)).toNatClampNeg) (xs (v4 + (4 : Int32)).toNatClampNeg) (xs (v4 + (5 : Int32)).toNatClampNeg) Z I L _ hZ kv1 h) (gwV W_1497 W_1498 W_1499 W_40 W_1496) rfl ⟨rfl, fy_X11_sells⟩ ⟨by decide, by decide⟩ (c := 11) rfl (by decide) kv1 rfl rfl (Nat.le_of_ble_eq_true rfl) ⟨by show k9 + (jcz Z - jcz Z5) + 0 + 0 ≤ 601024; have := hb.1; omega, by show n9 + (jsz Z - jsz Z5) + 0 + 0 ≤ 7293034; have := hb.2; omega⟩ dL_law_1437 (fun v741 Z742 I743 L744 q745 => ?_)
  obtain ⟨rfl, r747, rfl, h⟩ := q745
  show jJ G 8 1440 [(0, .ref b), (1, .ref v1), (2, .ref v2), (3, .ref v3), (4, .int v4)] [.int r747] Z I743 L744 (k9 + (jcz Z - jcz Z5) + 0) (n9 + (jsz Z - jsz Z5) + 0)
  refine j_pop E dL_law_1440 rfl ?_
  refine j_aload_n E dL_law_1441 2 rfl ?_
  refine j_aload_n E dL_law_1442 0 rfl ?_
  refine j_iload E dL_law_1443 4 rfl ?_
  refine j_iconst E (v := 1) dL_law_1445 (by decide) ?_
  refine j_iadd E dL_law_1446 ?_
  obtain ⟨o748, h⟩ := h
  refine j_sld E hX.1 hX.2.1 hX.2.2 o748 dL_law_1447 ?_
  refine j_aload_n E dL_law_1448 0 rfl ?_
  refine j_iload E dL_law_1449 4 rfl ?_
  refine j_iconst E (v := 2) dL_law_1451 (by decide) ?_
  refine j_iadd E dL_law_1452 ?_
  obtain ⟨o749, h⟩ := h
  refine j_sld E hX.1 hX.2.1 hX.2.2 o749 dL_law_1453 ?_
  refine j_aload_n E dL_law_1454 0 rfl ?_
  refine j_iload E dL_law_1455 4 rfl ?_
  refine j_iconst E (v := 3) dL_law_1457 (by decide) ?_
  refine j_iadd E dL_law_1458 ?_
  obtain ⟨o750, h⟩ := h
  refine j_sld E hX.1 hX.2.1 hX.2.2 o750 dL_law_1459 ?_
  refine j_aload_n E dL_law_1460 0 rfl ?_
  refine j_iload E dL_law_1461 4 rfl ?_
  refine j_iconst E (v := 4) dL_law_1463 (by decide) ?_
  refine j_iadd E dL_law_1464 ?_
  obtain ⟨o751, h⟩ := h
  refine j_sld E hX.1 hX.2.1 hX.2.2 o751 dL_law_1465 ?_
  refine j_aload_n E dL_law_1466 0 rfl ?_
  refine j_iload E dL_law_1467 4 rfl ?_
  refine j_iconst E (v := 5) dL_law_1469 (by decide) ?_
  refine j_iadd E dL_law_1470 ?_
  obtain ⟨o752, h⟩ := h
  refine j_sld E hX.1 hX.2.1 hX.2.2 o752 dL_law_1471 ?_
  refine j_callV E [.int (xs (v4 + (1 : Int32)).toNatClampNeg), .int (xs (v4 + (2 : Int32)).toNatClampNeg), .int (xs (v4 + (3 : Int32)).toNatClampNeg), .int (xs (v4 + (4 : Int32)).toNatClampNeg), .int (xs (v4 + (5 : Int32)).toNatClampNeg)] [] (c_X12_sells (gL G) (gD G) (gY G) v2 (xs (v4 + (1 : Int32)).toNatClampNeg) (xs (v4 + (2 : Int32)).toNatClampNeg) (xs (v4 + (3 : Int32)).toNatClampNeg) (xs (v4 + (4 : Int32)).toNatClampNeg) (xs (v4 + (5 : Int32)).toNatClampNeg) Z I743 L744 _ hZ kv2 h) (gwV W_1501 W_1502 W_1503 W_695 W_1500) rfl ⟨rfl, fy_X12_sells⟩ ⟨by decide, by decide⟩ (c := 12) rfl (by decide) kv2 rfl rfl (Nat.le_of_ble_eq_true rfl) ⟨by show k9 + (jcz Z - jcz Z5) + 0 + 0 ≤ 601024; have := hb.1; omega, by show n9 + (jsz Z - jsz Z5) + 0 + 0 ≤ 7293034; have := hb.2; omega⟩ dL_law_1472 (fun v753 Z754 I755 L756 q757 => ?_)
  obtain ⟨rfl, r759, rfl, h⟩ := q757
  show jJ G 8 1475 [(0, .ref b), (1, .ref v1), (2, .ref v2), (3, .ref v3), (4, .int v4)] [.int r759] Z I755 L756 (k9 + (jcz Z - jcz Z5) + 0) (n9 + (jsz Z - jsz Z5) + 0)
  refine j_pop E dL_law_1475 rfl ?_
  refine j_goto E 1732 dL_law_1476 (by decide) ?_
  refine j_sub [0, 1, 2, 3, 4] rfl ?_
  refine j_widen (k9 := k9 + (jcz Z - jcz Z5) + 27) (n9 := n9 + (jsz Z - jsz Z5) + 600) (by show k9 + (jcz Z - jcz Z5) + 0 ≤ _; omega) (by show n9 + (jsz Z - jsz Z5) + 0 ≤ _; omega) ?_
  exact m_L_law_b1732 E hX hV hU hl0 hb9 hn9 K23 hK23 v1 v2 v3 v4 Z I755 L756 hZ hx hc hb kv1 kv2 kv3 h
set_option maxRecDepth 100000 in
def f_L_law_b1479 (xs : Nat → Int32) (Ls : Nat) (B : Nat × Nat) (K23 : Nat → Nat → Nat → Int32 → jZ → jI → jL → Prop) (v1 : Nat) (v2 : Nat) (v3 : Nat) (v4 : Int32) (Z : jZ) (I : jI) (L : jL) : Prop := (vp_in (v4 + (1 : Int32)) Ls ∧ (vp_in (v4 + (2 : Int32)) Ls ∧ (f_X11_dies v1 (xs (v4 + (1 : Int32)).toNatClampNeg) (xs (v4 + (2 : Int32)).toNatClampNeg) Z I L (fun r768 I764 L765 => (vp_in (v4 + (1 : Int32)) Ls ∧ (vp_in (v4 + (2 : Int32)) Ls ∧ (f_X12_dies v2 (xs (v4 + (1 : Int32)).toNatClampNeg) (xs (v4 + (2 : Int32)).toNatClampNeg) Z I764 L765 (fun r777 I773 L774 => f_L_law_b1732 xs Ls B K23 v1 v2 v3 v4 Z I773 L774))))))))
set_option maxHeartbeats 4000000 in
set_option maxRecDepth 100000 in
theorem m_L_law_b1479 {G : jG} {Z0 : jZ} {xs : Nat → Int32} {Ls b k9 n9 sa sb : Nat} {B : Nat × Nat} {Z5 : jZ} (E : jE G cL_law RL (Cond.arrayClass .byte :: jT) 8 (some .boolean) room_1 jRL) (hX : va_X b Ls xs (gS G) (gS G).heap ∧ b < (gS G).heap.size ∧ ¬ gA G b) (hV : jV (gA G) (gS G) (gS G).heap) (hU : jU sa sb (gA G) (gS G) (gS G).heap) (hl0 : (gL G).stackTraces = false) (hb9 : k9 + 27 + (B.1 - jcz Z5) ≤ 601024) (hn9 : n9 + 600 + (B.2 - jsz Z5) ≤ 7293034) (K23 : Nat → Nat → Nat → Int32 → jZ → jI → jL → Prop) (hK23 : ∀ (v1 : Nat) (v2 : Nat) (v3 : Nat) (v4 : Int32) (Z : jZ) (I : jI) (L : jL), SH Z → jext Z0 Z → jle Z5 Z → jin B Z → jk Z v1 11 → jk Z v2 12 → jk Z v3 15 → K23 v1 v2 v3 v4 Z I L → jJ G 8 23 [(0, .ref b), (1, .ref v1), (2, .ref v2), (3, .ref v3), (4, .int v4)] [] Z I L (k9 + (jcz Z - jcz Z5) + 27) (n9 + (jsz Z - jsz Z5) + 600)) (v1 : Nat) (v2 : Nat) (v3 : Nat) (v4 : Int32) (Z : jZ) (I : jI) (L : jL) (hZ : SH Z) (hx : jext Z0 Z) (hc : jle Z5 Z) (hb : jin B Z) (kv1 : jk Z v1 11) (kv2 : jk Z v2 12) (kv3 : jk Z v3 15) (h : f_L_law_b1479 xs Ls B K23 v1 v2 v3 v4 Z I L) : jJ G 8 1479 [(0, .ref b), (1, .ref v1), (2, .ref v2), (3, .ref v3), (4, .int v4)] [] Z I L (k9 + (jcz Z - jcz Z5) + 0) (n9 + (jsz Z - jsz Z5) + 0) := by
  unfold f_L_law_b1479 at h
  refine j_aload_n E dL_law_1479 1 rfl ?_
  refine j_aload_n E dL_law_1480 0 rfl ?_
  refine j_iload E dL_law_1481 4 rfl ?_
  refine j_iconst E (v := 1) dL_law_1483 (by decide) ?_
  refine j_iadd E dL_law_1484 ?_
  obtain ⟨o760, h⟩ := h
  refine j_sld E hX.1 hX.2.1 hX.2.2 o760 dL_law_1485 ?_
  refine j_aload_n E dL_law_1486 0 rfl ?_
  refine j_iload E dL_law_1487 4 rfl ?_
  refine j_iconst E (v := 2) dL_law_1489 (by decide) ?_
  refine j_iadd E dL_law_1490 ?_
  obtain ⟨o761, h⟩ := h
  refine j_sld E hX.1 hX.2.1 hX.2.2 o761 dL_law_1491 ?_
  refine j_callV E [.int (xs (v4 + (1 : Int32)).toNatClampNeg), .int (xs (v4 + (2 : Int32)).toNatClampNeg)] [] (c_X11_dies (gL G) (gD G) (gY G) v1 (xs (v4 + (1 : Int32)).toNatClampNeg) (xs (v4 + (2 : Int32)).toNatClampNeg) Z I L _ hZ kv1 h) (gwV W_1505 W_1506 W_1507 W_40 W_1504) rfl ⟨rfl, fy_X11_dies⟩ ⟨by decide, by decide⟩ (c := 11) rfl (by decide) kv1 rfl rfl (Nat.le_of_ble_eq_true rfl) ⟨by show k9 + (jcz Z - jcz Z5) + 0 + 0 ≤ 601024; have := hb.1; omega, by show n9 + (jsz Z - jsz Z5) + 0 + 0 ≤ 7293034; have := hb.2; omega⟩ dL_law_1492 (fun v762 Z763 I764 L765 q766 => ?_)
  obtain ⟨rfl, r768, rfl, h⟩ := q766
  show jJ G 8 1495 [(0, .ref b), (1, .ref v1), (2, .ref v2), (3, .ref v3), (4, .int v4)] [.int r768] Z I764 L765 (k9 + (jcz Z - jcz Z5) + 0) (n9 + (jsz Z - jsz Z5) + 0)
  refine j_pop E dL_law_1495 rfl ?_
  refine j_aload_n E dL_law_1496 2 rfl ?_
  refine j_aload_n E dL_law_1497 0 rfl ?_
  refine j_iload E dL_law_1498 4 rfl ?_
  refine j_iconst E (v := 1) dL_law_1500 (by decide) ?_
  refine j_iadd E dL_law_1501 ?_
  obtain ⟨o769, h⟩ := h
  refine j_sld E hX.1 hX.2.1 hX.2.2 o769 dL_law_1502 ?_
  refine j_aload_n E dL_law_1503 0 rfl ?_
  refine j_iload E dL_law_1504 4 rfl ?_
  refine j_iconst E (v := 2) dL_law_1506 (by decide) ?_
  refine j_iadd E dL_law_1507 ?_
  obtain ⟨o770, h⟩ := h
  refine j_sld E hX.1 hX.2.1 hX.2.2 o770 dL_law_1508 ?_
  refine j_callV E [.int (xs (v4 + (1 : Int32)).toNatClampNeg), .int (xs (v4 + (2 : Int32)).toNatClampNeg)] [] (c_X12_dies (gL G) (gD G) (gY G) v2 (xs (v4 + (1 : Int32)).toNatClampNeg) (xs (v4 + (2 : Int32)).toNatClampNeg) Z I764 L765 _ hZ kv2 h) (gwV W_1509 W_1510 W_1511 W_695 W_1508) rfl ⟨rfl, fy_X12_dies⟩ ⟨by decide, by decide⟩ (c := 12) rfl (by decide) kv2 rfl rfl (Nat.le_of_ble_eq_true rfl) ⟨by show k9 + (jcz Z - jcz Z5) + 0 + 0 ≤ 601024; have := hb.1; omega, by show n9 + (jsz Z - jsz Z5) + 0 + 0 ≤ 7293034; have := hb.2; omega⟩ dL_law_1509 (fun v771 Z772 I773 L774 q775 => ?_)
  obtain ⟨rfl, r777, rfl, h⟩ := q775
  show jJ G 8 1512 [(0, .ref b), (1, .ref v1), (2, .ref v2), (3, .ref v3), (4, .int v4)] [.int r777] Z I773 L774 (k9 + (jcz Z - jcz Z5) + 0) (n9 + (jsz Z - jsz Z5) + 0)
  refine j_pop E dL_law_1512 rfl ?_
  refine j_goto E 1732 dL_law_1513 (by decide) ?_
  refine j_sub [0, 1, 2, 3, 4] rfl ?_
  refine j_widen (k9 := k9 + (jcz Z - jcz Z5) + 27) (n9 := n9 + (jsz Z - jsz Z5) + 600) (by show k9 + (jcz Z - jcz Z5) + 0 ≤ _; omega) (by show n9 + (jsz Z - jsz Z5) + 0 ≤ _; omega) ?_
  exact m_L_law_b1732 E hX hV hU hl0 hb9 hn9 K23 hK23 v1 v2 v3 v4 Z I773 L774 hZ hx hc hb kv1 kv2 kv3 h
set_option maxRecDepth 100000 in
def f_L_law_b1516 (xs : Nat → Int32) (Ls : Nat) (B : Nat × Nat) (K23 : Nat → Nat → Nat → Int32 → jZ → jI → jL → Prop) (v1 : Nat) (v2 : Nat) (v3 : Nat) (v4 : Int32) (Z : jZ) (I : jI) (L : jL) : Prop := (f_X11_undo v1 Z I L (fun r784 I780 L781 => (f_X12_undo v2 Z I780 L781 (fun r791 I787 L788 => f_L_law_b1732 xs Ls B K23 v1 v2 v3 v4 Z I787 L788))))
set_option maxHeartbeats 4000000 in
set_option maxRecDepth 100000 in
theorem m_L_law_b1516 {G : jG} {Z0 : jZ} {xs : Nat → Int32} {Ls b k9 n9 sa sb : Nat} {B : Nat × Nat} {Z5 : jZ} (E : jE G cL_law RL (Cond.arrayClass .byte :: jT) 8 (some .boolean) room_1 jRL) (hX : va_X b Ls xs (gS G) (gS G).heap ∧ b < (gS G).heap.size ∧ ¬ gA G b) (hV : jV (gA G) (gS G) (gS G).heap) (hU : jU sa sb (gA G) (gS G) (gS G).heap) (hl0 : (gL G).stackTraces = false) (hb9 : k9 + 27 + (B.1 - jcz Z5) ≤ 601024) (hn9 : n9 + 600 + (B.2 - jsz Z5) ≤ 7293034) (K23 : Nat → Nat → Nat → Int32 → jZ → jI → jL → Prop) (hK23 : ∀ (v1 : Nat) (v2 : Nat) (v3 : Nat) (v4 : Int32) (Z : jZ) (I : jI) (L : jL), SH Z → jext Z0 Z → jle Z5 Z → jin B Z → jk Z v1 11 → jk Z v2 12 → jk Z v3 15 → K23 v1 v2 v3 v4 Z I L → jJ G 8 23 [(0, .ref b), (1, .ref v1), (2, .ref v2), (3, .ref v3), (4, .int v4)] [] Z I L (k9 + (jcz Z - jcz Z5) + 27) (n9 + (jsz Z - jsz Z5) + 600)) (v1 : Nat) (v2 : Nat) (v3 : Nat) (v4 : Int32) (Z : jZ) (I : jI) (L : jL) (hZ : SH Z) (hx : jext Z0 Z) (hc : jle Z5 Z) (hb : jin B Z) (kv1 : jk Z v1 11) (kv2 : jk Z v2 12) (kv3 : jk Z v3 15) (h : f_L_law_b1516 xs Ls B K23 v1 v2 v3 v4 Z I L) : jJ G 8 1516 [(0, .ref b), (1, .ref v1), (2, .ref v2), (3, .ref v3), (4, .int v4)] [] Z I L (k9 + (jcz Z - jcz Z5) + 0) (n9 + (jsz Z - jsz Z5) + 0) := by
  unfold f_L_law_b1516 at h
  refine j_aload_n E dL_law_1516 1 rfl ?_
  refine j_callV E [] [] (c_X11_undo (gL G) (gD G) (gY G) v1 Z I L _ hZ kv1 h) (gwV W_1513 W_1514 W_1515 W_40 W_1512) rfl ⟨rfl, fy_X11_undo⟩ ⟨by decide, by decide⟩ (c := 11) rfl (by decide) kv1 rfl rfl (Nat.le_of_ble_eq_true rfl) ⟨by show k9 + (jcz Z - jcz Z5) + 0 + 0 ≤ 601024; have := hb.1; omega, by show n9 + (jsz Z - jsz Z5) + 0 + 0 ≤ 7293034; have := hb.2; omega⟩ dL_law_1517 (fun v778 Z779 I780 L781 q782 => ?_)
  obtain ⟨rfl, r784, rfl, h⟩ := q782
  show jJ G 8 1520 [(0, .ref b), (1, .ref v1), (2, .ref v2), (3, .ref v3), (4, .int v4)] [.int r784] Z I780 L781 (k9 + (jcz Z - jcz Z5) + 0) (n9 + (jsz Z - jsz Z5) + 0)
  refine j_pop E dL_law_1520 rfl ?_
  refine j_aload_n E dL_law_1521 2 rfl ?_
  refine j_callV E [] [] (c_X12_undo (gL G) (gD G) (gY G) v2 Z I780 L781 _ hZ kv2 h) (gwV W_1517 W_1518 W_1519 W_695 W_1516) rfl ⟨rfl, fy_X12_undo⟩ ⟨by decide, by decide⟩ (c := 12) rfl (by decide) kv2 rfl rfl (Nat.le_of_ble_eq_true rfl) ⟨by show k9 + (jcz Z - jcz Z5) + 0 + 0 ≤ 601024; have := hb.1; omega, by show n9 + (jsz Z - jsz Z5) + 0 + 0 ≤ 7293034; have := hb.2; omega⟩ dL_law_1522 (fun v785 Z786 I787 L788 q789 => ?_)
  obtain ⟨rfl, r791, rfl, h⟩ := q789
  show jJ G 8 1525 [(0, .ref b), (1, .ref v1), (2, .ref v2), (3, .ref v3), (4, .int v4)] [.int r791] Z I787 L788 (k9 + (jcz Z - jcz Z5) + 0) (n9 + (jsz Z - jsz Z5) + 0)
  refine j_pop E dL_law_1525 rfl ?_
  refine j_goto E 1732 dL_law_1526 (by decide) ?_
  refine j_sub [0, 1, 2, 3, 4] rfl ?_
  refine j_widen (k9 := k9 + (jcz Z - jcz Z5) + 27) (n9 := n9 + (jsz Z - jsz Z5) + 600) (by show k9 + (jcz Z - jcz Z5) + 0 ≤ _; omega) (by show n9 + (jsz Z - jsz Z5) + 0 ≤ _; omega) ?_
  exact m_L_law_b1732 E hX hV hU hl0 hb9 hn9 K23 hK23 v1 v2 v3 v4 Z I787 L788 hZ hx hc hb kv1 kv2 kv3 h
set_option maxRecDepth 100000 in
def f_L_law_b1529 (xs : Nat → Int32) (Ls : Nat) (B : Nat × Nat) (K23 : Nat → Nat → Nat → Int32 → jZ → jI → jL → Prop) (v1 : Nat) (v2 : Nat) (v3 : Nat) (v4 : Int32) (Z : jZ) (I : jI) (L : jL) : Prop := (vp_in (v4 + (1 : Int32)) Ls ∧ (f_X11_rail v1 (xs (v4 + (1 : Int32)).toNatClampNeg) Z I L (fun r799 I795 L796 => (vp_in (v4 + (1 : Int32)) Ls ∧ (f_X12_rail v2 (xs (v4 + (1 : Int32)).toNatClampNeg) Z I795 L796 (fun r807 I803 L804 => f_L_law_b1732 xs Ls B K23 v1 v2 v3 v4 Z I803 L804))))))
set_option maxHeartbeats 4000000 in
set_option maxRecDepth 100000 in
theorem m_L_law_b1529 {G : jG} {Z0 : jZ} {xs : Nat → Int32} {Ls b k9 n9 sa sb : Nat} {B : Nat × Nat} {Z5 : jZ} (E : jE G cL_law RL (Cond.arrayClass .byte :: jT) 8 (some .boolean) room_1 jRL) (hX : va_X b Ls xs (gS G) (gS G).heap ∧ b < (gS G).heap.size ∧ ¬ gA G b) (hV : jV (gA G) (gS G) (gS G).heap) (hU : jU sa sb (gA G) (gS G) (gS G).heap) (hl0 : (gL G).stackTraces = false) (hb9 : k9 + 27 + (B.1 - jcz Z5) ≤ 601024) (hn9 : n9 + 600 + (B.2 - jsz Z5) ≤ 7293034) (K23 : Nat → Nat → Nat → Int32 → jZ → jI → jL → Prop) (hK23 : ∀ (v1 : Nat) (v2 : Nat) (v3 : Nat) (v4 : Int32) (Z : jZ) (I : jI) (L : jL), SH Z → jext Z0 Z → jle Z5 Z → jin B Z → jk Z v1 11 → jk Z v2 12 → jk Z v3 15 → K23 v1 v2 v3 v4 Z I L → jJ G 8 23 [(0, .ref b), (1, .ref v1), (2, .ref v2), (3, .ref v3), (4, .int v4)] [] Z I L (k9 + (jcz Z - jcz Z5) + 27) (n9 + (jsz Z - jsz Z5) + 600)) (v1 : Nat) (v2 : Nat) (v3 : Nat) (v4 : Int32) (Z : jZ) (I : jI) (L : jL) (hZ : SH Z) (hx : jext Z0 Z) (hc : jle Z5 Z) (hb : jin B Z) (kv1 : jk Z v1 11) (kv2 : jk Z v2 12) (kv3 : jk Z v3 15) (h : f_L_law_b1529 xs Ls B K23 v1 v2 v3 v4 Z I L) : jJ G 8 1529 [(0, .ref b), (1, .ref v1), (2, .ref v2), (3, .ref v3), (4, .int v4)] [] Z I L (k9 + (jcz Z - jcz Z5) + 0) (n9 + (jsz Z - jsz Z5) + 0) := by
  unfold f_L_law_b1529 at h
  refine j_aload_n E dL_law_1529 1 rfl ?_
  refine j_aload_n E dL_law_1530 0 rfl ?_
  refine j_iload E dL_law_1531 4 rfl ?_
  refine j_iconst E (v := 1) dL_law_1533 (by decide) ?_
  refine j_iadd E dL_law_1534 ?_
  obtain ⟨o792, h⟩ := h
  refine j_sld E hX.1 hX.2.1 hX.2.2 o792 dL_law_1535 ?_
  refine j_callV E [.int (xs (v4 + (1 : Int32)).toNatClampNeg)] [] (c_X11_rail (gL G) (gD G) (gY G) v1 (xs (v4 + (1 : Int32)).toNatClampNeg) Z I L _ hZ kv1 h) (gwV W_1521 W_1522 W_1523 W_40 W_1520) rfl ⟨rfl, fy_X11_rail⟩ ⟨by decide, by decide⟩ (c := 11) rfl (by decide) kv1 rfl rfl (Nat.le_of_ble_eq_true rfl) ⟨by show k9 + (jcz Z - jcz Z5) + 0 + 0 ≤ 601024; have := hb.1; omega, by show n9 + (jsz Z - jsz Z5) + 0 + 0 ≤ 7293034; have := hb.2; omega⟩ dL_law_1536 (fun v793 Z794 I795 L796 q797 => ?_)
  obtain ⟨rfl, r799, rfl, h⟩ := q797
  show jJ G 8 1539 [(0, .ref b), (1, .ref v1), (2, .ref v2), (3, .ref v3), (4, .int v4)] [.int r799] Z I795 L796 (k9 + (jcz Z - jcz Z5) + 0) (n9 + (jsz Z - jsz Z5) + 0)
  refine j_pop E dL_law_1539 rfl ?_
  refine j_aload_n E dL_law_1540 2 rfl ?_
  refine j_aload_n E dL_law_1541 0 rfl ?_
  refine j_iload E dL_law_1542 4 rfl ?_
  refine j_iconst E (v := 1) dL_law_1544 (by decide) ?_
  refine j_iadd E dL_law_1545 ?_
  obtain ⟨o800, h⟩ := h
  refine j_sld E hX.1 hX.2.1 hX.2.2 o800 dL_law_1546 ?_
  refine j_callV E [.int (xs (v4 + (1 : Int32)).toNatClampNeg)] [] (c_X12_rail (gL G) (gD G) (gY G) v2 (xs (v4 + (1 : Int32)).toNatClampNeg) Z I795 L796 _ hZ kv2 h) (gwV W_1525 W_1526 W_1527 W_695 W_1524) rfl ⟨rfl, fy_X12_rail⟩ ⟨by decide, by decide⟩ (c := 12) rfl (by decide) kv2 rfl rfl (Nat.le_of_ble_eq_true rfl) ⟨by show k9 + (jcz Z - jcz Z5) + 0 + 0 ≤ 601024; have := hb.1; omega, by show n9 + (jsz Z - jsz Z5) + 0 + 0 ≤ 7293034; have := hb.2; omega⟩ dL_law_1547 (fun v801 Z802 I803 L804 q805 => ?_)
  obtain ⟨rfl, r807, rfl, h⟩ := q805
  show jJ G 8 1550 [(0, .ref b), (1, .ref v1), (2, .ref v2), (3, .ref v3), (4, .int v4)] [.int r807] Z I803 L804 (k9 + (jcz Z - jcz Z5) + 0) (n9 + (jsz Z - jsz Z5) + 0)
  refine j_pop E dL_law_1550 rfl ?_
  refine j_goto E 1732 dL_law_1551 (by decide) ?_
  refine j_sub [0, 1, 2, 3, 4] rfl ?_
  refine j_widen (k9 := k9 + (jcz Z - jcz Z5) + 27) (n9 := n9 + (jsz Z - jsz Z5) + 600) (by show k9 + (jcz Z - jcz Z5) + 0 ≤ _; omega) (by show n9 + (jsz Z - jsz Z5) + 0 ≤ _; omega) ?_
  exact m_L_law_b1732 E hX hV hU hl0 hb9 hn9 K23 hK23 v1 v2 v3 v4 Z I803 L804 hZ hx hc hb kv1 kv2 kv3 h
set_option maxRecDepth 100000 in
def f_L_law_b1554 (xs : Nat → Int32) (Ls : Nat) (B : Nat × Nat) (K23 : Nat → Nat → Nat → Int32 → jZ → jI → jL → Prop) (v1 : Nat) (v2 : Nat) (v3 : Nat) (v4 : Int32) (Z : jZ) (I : jI) (L : jL) : Prop := (vp_in (v4 + (1 : Int32)) Ls ∧ (vp_in (v4 + (2 : Int32)) Ls ∧ (f_X11_rules v1 (xs (v4 + (1 : Int32)).toNatClampNeg) (xs (v4 + (2 : Int32)).toNatClampNeg) Z I L (fun r816 I812 L813 => (vp_in (v4 + (1 : Int32)) Ls ∧ (vp_in (v4 + (2 : Int32)) Ls ∧ (f_X12_rules v2 (xs (v4 + (1 : Int32)).toNatClampNeg) (xs (v4 + (2 : Int32)).toNatClampNeg) Z I812 L813 (fun r825 I821 L822 => f_L_law_b1732 xs Ls B K23 v1 v2 v3 v4 Z I821 L822))))))))
set_option maxHeartbeats 4000000 in
set_option maxRecDepth 100000 in
theorem m_L_law_b1554 {G : jG} {Z0 : jZ} {xs : Nat → Int32} {Ls b k9 n9 sa sb : Nat} {B : Nat × Nat} {Z5 : jZ} (E : jE G cL_law RL (Cond.arrayClass .byte :: jT) 8 (some .boolean) room_1 jRL) (hX : va_X b Ls xs (gS G) (gS G).heap ∧ b < (gS G).heap.size ∧ ¬ gA G b) (hV : jV (gA G) (gS G) (gS G).heap) (hU : jU sa sb (gA G) (gS G) (gS G).heap) (hl0 : (gL G).stackTraces = false) (hb9 : k9 + 27 + (B.1 - jcz Z5) ≤ 601024) (hn9 : n9 + 600 + (B.2 - jsz Z5) ≤ 7293034) (K23 : Nat → Nat → Nat → Int32 → jZ → jI → jL → Prop) (hK23 : ∀ (v1 : Nat) (v2 : Nat) (v3 : Nat) (v4 : Int32) (Z : jZ) (I : jI) (L : jL), SH Z → jext Z0 Z → jle Z5 Z → jin B Z → jk Z v1 11 → jk Z v2 12 → jk Z v3 15 → K23 v1 v2 v3 v4 Z I L → jJ G 8 23 [(0, .ref b), (1, .ref v1), (2, .ref v2), (3, .ref v3), (4, .int v4)] [] Z I L (k9 + (jcz Z - jcz Z5) + 27) (n9 + (jsz Z - jsz Z5) + 600)) (v1 : Nat) (v2 : Nat) (v3 : Nat) (v4 : Int32) (Z : jZ) (I : jI) (L : jL) (hZ : SH Z) (hx : jext Z0 Z) (hc : jle Z5 Z) (hb : jin B Z) (kv1 : jk Z v1 11) (kv2 : jk Z v2 12) (kv3 : jk Z v3 15) (h : f_L_law_b1554 xs Ls B K23 v1 v2 v3 v4 Z I L) : jJ G 8 1554 [(0, .ref b), (1, .ref v1), (2, .ref v2), (3, .ref v3), (4, .int v4)] [] Z I L (k9 + (jcz Z - jcz Z5) + 0) (n9 + (jsz Z - jsz Z5) + 0) := by
  unfold f_L_law_b1554 at h
  refine j_aload_n E dL_law_1554 1 rfl ?_
  refine j_aload_n E dL_law_1555 0 rfl ?_
  refine j_iload E dL_law_1556 4 rfl ?_
  refine j_iconst E (v := 1) dL_law_1558 (by decide) ?_
  refine j_iadd E dL_law_1559 ?_
  obtain ⟨o808, h⟩ := h
  refine j_sld E hX.1 hX.2.1 hX.2.2 o808 dL_law_1560 ?_
  refine j_aload_n E dL_law_1561 0 rfl ?_
  refine j_iload E dL_law_1562 4 rfl ?_
  refine j_iconst E (v := 2) dL_law_1564 (by decide) ?_
  refine j_iadd E dL_law_1565 ?_
  obtain ⟨o809, h⟩ := h
  refine j_sld E hX.1 hX.2.1 hX.2.2 o809 dL_law_1566 ?_
  refine j_callV E [.int (xs (v4 + (1 : Int32)).toNatClampNeg), .int (xs (v4 + (2 : Int32)).toNatClampNeg)] [] (c_X11_rules (gL G) (gD G) (gY G) v1 (xs (v4 + (1 : Int32)).toNatClampNeg) (xs (v4 + (2 : Int32)).toNatClampNeg) Z I L _ hZ kv1 h) (gwV W_1529 W_1530 W_1531 W_40 W_1528) rfl ⟨rfl, fy_X11_rules⟩ ⟨by decide, by decide⟩ (c := 11) rfl (by decide) kv1 rfl rfl (Nat.le_of_ble_eq_true rfl) ⟨by show k9 + (jcz Z - jcz Z5) + 0 + 0 ≤ 601024; have := hb.1; omega, by show n9 + (jsz Z - jsz Z5) + 0 + 0 ≤ 7293034; have := hb.2; omega⟩ dL_law_1567 (fun v810 Z811 I812 L813 q814 => ?_)
  obtain ⟨rfl, r816, rfl, h⟩ := q814
  show jJ G 8 1570 [(0, .ref b), (1, .ref v1), (2, .ref v2), (3, .ref v3), (4, .int v4)] [.int r816] Z I812 L813 (k9 + (jcz Z - jcz Z5) + 0) (n9 + (jsz Z - jsz Z5) + 0)
  refine j_pop E dL_law_1570 rfl ?_
  refine j_aload_n E dL_law_1571 2 rfl ?_
  refine j_aload_n E dL_law_1572 0 rfl ?_
  refine j_iload E dL_law_1573 4 rfl ?_
  refine j_iconst E (v := 1) dL_law_1575 (by decide) ?_
  refine j_iadd E dL_law_1576 ?_
  obtain ⟨o817, h⟩ := h
  refine j_sld E hX.1 hX.2.1 hX.2.2 o817 dL_law_1577 ?_
  refine j_aload_n E dL_law_1578 0 rfl ?_
  refine j_iload E dL_law_1579 4 rfl ?_
  refine j_iconst E (v := 2) dL_law_1581 (by decide) ?_
  refine j_iadd E dL_law_1582 ?_
  obtain ⟨o818, h⟩ := h
  refine j_sld E hX.1 hX.2.1 hX.2.2 o818 dL_law_1583 ?_
  refine j_callV E [.int (xs (v4 + (1 : Int32)).toNatClampNeg), .int (xs (v4 + (2 : Int32)).toNatClampNeg)] [] (c_X12_rules (gL G) (gD G) (gY G) v2 (xs (v4 + (1 : Int32)).toNatClampNeg) (xs (v4 + (2 : Int32)).toNatClampNeg) Z I812 L813 _ hZ kv2 h) (gwV W_1533 W_1534 W_1535 W_695 W_1532) rfl ⟨rfl, fy_X12_rules⟩ ⟨by decide, by decide⟩ (c := 12) rfl (by decide) kv2 rfl rfl (Nat.le_of_ble_eq_true rfl) ⟨by show k9 + (jcz Z - jcz Z5) + 0 + 0 ≤ 601024; have := hb.1; omega, by show n9 + (jsz Z - jsz Z5) + 0 + 0 ≤ 7293034; have := hb.2; omega⟩ dL_law_1584 (fun v819 Z820 I821 L822 q823 => ?_)
  obtain ⟨rfl, r825, rfl, h⟩ := q823
  show jJ G 8 1587 [(0, .ref b), (1, .ref v1), (2, .ref v2), (3, .ref v3), (4, .int v4)] [.int r825] Z I821 L822 (k9 + (jcz Z - jcz Z5) + 0) (n9 + (jsz Z - jsz Z5) + 0)
  refine j_pop E dL_law_1587 rfl ?_
  refine j_goto E 1732 dL_law_1588 (by decide) ?_
  refine j_sub [0, 1, 2, 3, 4] rfl ?_
  refine j_widen (k9 := k9 + (jcz Z - jcz Z5) + 27) (n9 := n9 + (jsz Z - jsz Z5) + 600) (by show k9 + (jcz Z - jcz Z5) + 0 ≤ _; omega) (by show n9 + (jsz Z - jsz Z5) + 0 ≤ _; omega) ?_
  exact m_L_law_b1732 E hX hV hU hl0 hb9 hn9 K23 hK23 v1 v2 v3 v4 Z I821 L822 hZ hx hc hb kv1 kv2 kv3 h
set_option maxRecDepth 100000 in
def f_L_law_b1591 (xs : Nat → Int32) (Ls : Nat) (B : Nat × Nat) (K23 : Nat → Nat → Nat → Int32 → jZ → jI → jL → Prop) (v1 : Nat) (v2 : Nat) (v3 : Nat) (v4 : Int32) (Z : jZ) (I : jI) (L : jL) : Prop := (vp_in (v4 + (1 : Int32)) Ls ∧ (f_X11_feast B v1 (xs (v4 + (1 : Int32)).toNatClampNeg) Z I L (fun r833 Z828 I829 L830 => (vp_in (v4 + (1 : Int32)) Ls ∧ (f_X12_feast B v2 (xs (v4 + (1 : Int32)).toNatClampNeg) Z828 I829 L830 (fun r844 Z839 I840 L841 => f_L_law_b1732 xs Ls B K23 v1 v2 v3 v4 Z839 I840 L841))))))
set_option maxHeartbeats 4000000 in
set_option maxRecDepth 100000 in
theorem m_L_law_b1591 {G : jG} {Z0 : jZ} {xs : Nat → Int32} {Ls b k9 n9 sa sb : Nat} {B : Nat × Nat} {Z5 : jZ} (E : jE G cL_law RL (Cond.arrayClass .byte :: jT) 8 (some .boolean) room_1 jRL) (hX : va_X b Ls xs (gS G) (gS G).heap ∧ b < (gS G).heap.size ∧ ¬ gA G b) (hV : jV (gA G) (gS G) (gS G).heap) (hU : jU sa sb (gA G) (gS G) (gS G).heap) (hl0 : (gL G).stackTraces = false) (hb9 : k9 + 27 + (B.1 - jcz Z5) ≤ 601024) (hn9 : n9 + 600 + (B.2 - jsz Z5) ≤ 7293034) (K23 : Nat → Nat → Nat → Int32 → jZ → jI → jL → Prop) (hK23 : ∀ (v1 : Nat) (v2 : Nat) (v3 : Nat) (v4 : Int32) (Z : jZ) (I : jI) (L : jL), SH Z → jext Z0 Z → jle Z5 Z → jin B Z → jk Z v1 11 → jk Z v2 12 → jk Z v3 15 → K23 v1 v2 v3 v4 Z I L → jJ G 8 23 [(0, .ref b), (1, .ref v1), (2, .ref v2), (3, .ref v3), (4, .int v4)] [] Z I L (k9 + (jcz Z - jcz Z5) + 27) (n9 + (jsz Z - jsz Z5) + 600)) (v1 : Nat) (v2 : Nat) (v3 : Nat) (v4 : Int32) (Z : jZ) (I : jI) (L : jL) (hZ : SH Z) (hx : jext Z0 Z) (hc : jle Z5 Z) (hb : jin B Z) (kv1 : jk Z v1 11) (kv2 : jk Z v2 12) (kv3 : jk Z v3 15) (h : f_L_law_b1591 xs Ls B K23 v1 v2 v3 v4 Z I L) : jJ G 8 1591 [(0, .ref b), (1, .ref v1), (2, .ref v2), (3, .ref v3), (4, .int v4)] [] Z I L (k9 + (jcz Z - jcz Z5) + 0) (n9 + (jsz Z - jsz Z5) + 0) := by
  unfold f_L_law_b1591 at h
  refine j_aload_n E dL_law_1591 1 rfl ?_
  refine j_aload_n E dL_law_1592 0 rfl ?_
  refine j_iload E dL_law_1593 4 rfl ?_
  refine j_iconst E (v := 1) dL_law_1595 (by decide) ?_
  refine j_iadd E dL_law_1596 ?_
  obtain ⟨o826, h⟩ := h
  refine j_sld E hX.1 hX.2.1 hX.2.2 o826 dL_law_1597 ?_
  refine ju_callV E [.int (xs (v4 + (1 : Int32)).toNatClampNeg)] [] (c_X11_feast (gL G) (gD G) (gY G) B v1 (xs (v4 + (1 : Int32)).toNatClampNeg) Z I L _ hZ hb kv1 h) (gwV W_1537 W_1538 W_1539 W_40 W_1536) rfl ⟨rfl, fy_X11_feast⟩ ⟨by decide, by decide⟩ (c := 11) rfl (by decide) kv1 rfl rfl (Nat.le_of_ble_eq_true rfl) ⟨by show k9 + (jcz Z - jcz Z5) + 0 + (B.1 - jcz Z) ≤ 601024; have := hb.1; have := hc.1; omega, by show n9 + (jsz Z - jsz Z5) + 0 + (B.2 - jsz Z) ≤ 7293034; have := hb.2; have := hc.2; omega⟩ dL_law_1598 (fun v827 Z828 I829 L830 q831 j832 => ?_)
  refine j_kn (k' := k9 + (jcz Z828 - jcz Z5) + 0) (n' := n9 + (jsz Z828 - jsz Z5) + 0) (by have := hc.1; have := j832.1; omega) (by have := hc.2; have := j832.2; omega) ?_
  have hc := jle_trans hc j832
  obtain ⟨yZ828, hZ828, hbZ828, r833, rfl, h⟩ := q831
  have hZ := hZ828
  have hx : jext Z0 Z828 := jext_trans hx yZ828
  have hb := hbZ828
  have k834 := (yZ828 _ _ kv1).1
  have k835 := (yZ828 _ _ kv2).1
  have k836 := (yZ828 _ _ kv3).1
  show jJ G 8 1601 [(0, .ref b), (1, .ref v1), (2, .ref v2), (3, .ref v3), (4, .int v4)] [.int r833] Z828 I829 L830 (k9 + (jcz Z828 - jcz Z5) + 0) (n9 + (jsz Z828 - jsz Z5) + 0)
  refine j_pop E dL_law_1601 rfl ?_
  refine j_aload_n E dL_law_1602 2 rfl ?_
  refine j_aload_n E dL_law_1603 0 rfl ?_
  refine j_iload E dL_law_1604 4 rfl ?_
  refine j_iconst E (v := 1) dL_law_1606 (by decide) ?_
  refine j_iadd E dL_law_1607 ?_
  obtain ⟨o837, h⟩ := h
  refine j_sld E hX.1 hX.2.1 hX.2.2 o837 dL_law_1608 ?_
  refine ju_callV E [.int (xs (v4 + (1 : Int32)).toNatClampNeg)] [] (c_X12_feast (gL G) (gD G) (gY G) B v2 (xs (v4 + (1 : Int32)).toNatClampNeg) Z828 I829 L830 _ hZ hb k835 h) (gwV W_1541 W_1542 W_1543 W_695 W_1540) rfl ⟨rfl, fy_X12_feast⟩ ⟨by decide, by decide⟩ (c := 12) rfl (by decide) k835 rfl rfl (Nat.le_of_ble_eq_true rfl) ⟨by show k9 + (jcz Z828 - jcz Z5) + 0 + (B.1 - jcz Z828) ≤ 601024; have := hb.1; have := hc.1; omega, by show n9 + (jsz Z828 - jsz Z5) + 0 + (B.2 - jsz Z828) ≤ 7293034; have := hb.2; have := hc.2; omega⟩ dL_law_1609 (fun v838 Z839 I840 L841 q842 j843 => ?_)
  refine j_kn (k' := k9 + (jcz Z839 - jcz Z5) + 0) (n' := n9 + (jsz Z839 - jsz Z5) + 0) (by have := hc.1; have := j843.1; omega) (by have := hc.2; have := j843.2; omega) ?_
  have hc := jle_trans hc j843
  obtain ⟨yZ839, hZ839, hbZ839, r844, rfl, h⟩ := q842
  have hZ := hZ839
  have hx : jext Z0 Z839 := jext_trans hx yZ839
  have hb := hbZ839
  have k845 := (yZ839 _ _ k834).1
  have k846 := (yZ839 _ _ k835).1
  have k847 := (yZ839 _ _ k836).1
  show jJ G 8 1612 [(0, .ref b), (1, .ref v1), (2, .ref v2), (3, .ref v3), (4, .int v4)] [.int r844] Z839 I840 L841 (k9 + (jcz Z839 - jcz Z5) + 0) (n9 + (jsz Z839 - jsz Z5) + 0)
  refine j_pop E dL_law_1612 rfl ?_
  refine j_goto E 1732 dL_law_1613 (by decide) ?_
  refine j_sub [0, 1, 2, 3, 4] rfl ?_
  refine j_widen (k9 := k9 + (jcz Z839 - jcz Z5) + 27) (n9 := n9 + (jsz Z839 - jsz Z5) + 600) (by show k9 + (jcz Z839 - jcz Z5) + 0 ≤ _; omega) (by show n9 + (jsz Z839 - jsz Z5) + 0 ≤ _; omega) ?_
  exact m_L_law_b1732 E hX hV hU hl0 hb9 hn9 K23 hK23 v1 v2 v3 v4 Z839 I840 L841 hZ hx hc hb k845 k846 k847 h
set_option maxRecDepth 100000 in
def f_L_law_b1616 (xs : Nat → Int32) (Ls : Nat) (B : Nat × Nat) (K23 : Nat → Nat → Nat → Int32 → jZ → jI → jL → Prop) (v1 : Nat) (v2 : Nat) (v3 : Nat) (v4 : Int32) (Z : jZ) (I : jI) (L : jL) : Prop := (f_X11_jam B v1 Z I L (fun r854 Z849 I850 L851 => (f_X12_jam B v2 Z849 I850 L851 (fun r864 Z859 I860 L861 => f_L_law_b1732 xs Ls B K23 v1 v2 v3 v4 Z859 I860 L861))))
set_option maxHeartbeats 4000000 in
set_option maxRecDepth 100000 in
theorem m_L_law_b1616 {G : jG} {Z0 : jZ} {xs : Nat → Int32} {Ls b k9 n9 sa sb : Nat} {B : Nat × Nat} {Z5 : jZ} (E : jE G cL_law RL (Cond.arrayClass .byte :: jT) 8 (some .boolean) room_1 jRL) (hX : va_X b Ls xs (gS G) (gS G).heap ∧ b < (gS G).heap.size ∧ ¬ gA G b) (hV : jV (gA G) (gS G) (gS G).heap) (hU : jU sa sb (gA G) (gS G) (gS G).heap) (hl0 : (gL G).stackTraces = false) (hb9 : k9 + 27 + (B.1 - jcz Z5) ≤ 601024) (hn9 : n9 + 600 + (B.2 - jsz Z5) ≤ 7293034) (K23 : Nat → Nat → Nat → Int32 → jZ → jI → jL → Prop) (hK23 : ∀ (v1 : Nat) (v2 : Nat) (v3 : Nat) (v4 : Int32) (Z : jZ) (I : jI) (L : jL), SH Z → jext Z0 Z → jle Z5 Z → jin B Z → jk Z v1 11 → jk Z v2 12 → jk Z v3 15 → K23 v1 v2 v3 v4 Z I L → jJ G 8 23 [(0, .ref b), (1, .ref v1), (2, .ref v2), (3, .ref v3), (4, .int v4)] [] Z I L (k9 + (jcz Z - jcz Z5) + 27) (n9 + (jsz Z - jsz Z5) + 600)) (v1 : Nat) (v2 : Nat) (v3 : Nat) (v4 : Int32) (Z : jZ) (I : jI) (L : jL) (hZ : SH Z) (hx : jext Z0 Z) (hc : jle Z5 Z) (hb : jin B Z) (kv1 : jk Z v1 11) (kv2 : jk Z v2 12) (kv3 : jk Z v3 15) (h : f_L_law_b1616 xs Ls B K23 v1 v2 v3 v4 Z I L) : jJ G 8 1616 [(0, .ref b), (1, .ref v1), (2, .ref v2), (3, .ref v3), (4, .int v4)] [] Z I L (k9 + (jcz Z - jcz Z5) + 0) (n9 + (jsz Z - jsz Z5) + 0) := by
  unfold f_L_law_b1616 at h
  refine j_aload_n E dL_law_1616 1 rfl ?_
  refine ju_callV E [] [] (c_X11_jam (gL G) (gD G) (gY G) B v1 Z I L _ hZ hb kv1 h) (gwV W_1545 W_1546 W_1547 W_40 W_1544) rfl ⟨rfl, fy_X11_jam⟩ ⟨by decide, by decide⟩ (c := 11) rfl (by decide) kv1 rfl rfl (Nat.le_of_ble_eq_true rfl) ⟨by show k9 + (jcz Z - jcz Z5) + 0 + (B.1 - jcz Z) ≤ 601024; have := hb.1; have := hc.1; omega, by show n9 + (jsz Z - jsz Z5) + 0 + (B.2 - jsz Z) ≤ 7293034; have := hb.2; have := hc.2; omega⟩ dL_law_1617 (fun v848 Z849 I850 L851 q852 j853 => ?_)
  refine j_kn (k' := k9 + (jcz Z849 - jcz Z5) + 0) (n' := n9 + (jsz Z849 - jsz Z5) + 0) (by have := hc.1; have := j853.1; omega) (by have := hc.2; have := j853.2; omega) ?_
  have hc := jle_trans hc j853
  obtain ⟨yZ849, hZ849, hbZ849, r854, rfl, h⟩ := q852
  have hZ := hZ849
  have hx : jext Z0 Z849 := jext_trans hx yZ849
  have hb := hbZ849
  have k855 := (yZ849 _ _ kv1).1
  have k856 := (yZ849 _ _ kv2).1
  have k857 := (yZ849 _ _ kv3).1
  show jJ G 8 1620 [(0, .ref b), (1, .ref v1), (2, .ref v2), (3, .ref v3), (4, .int v4)] [.int r854] Z849 I850 L851 (k9 + (jcz Z849 - jcz Z5) + 0) (n9 + (jsz Z849 - jsz Z5) + 0)
  refine j_pop E dL_law_1620 rfl ?_
  refine j_aload_n E dL_law_1621 2 rfl ?_
  refine ju_callV E [] [] (c_X12_jam (gL G) (gD G) (gY G) B v2 Z849 I850 L851 _ hZ hb k856 h) (gwV W_1549 W_1550 W_1551 W_695 W_1548) rfl ⟨rfl, fy_X12_jam⟩ ⟨by decide, by decide⟩ (c := 12) rfl (by decide) k856 rfl rfl (Nat.le_of_ble_eq_true rfl) ⟨by show k9 + (jcz Z849 - jcz Z5) + 0 + (B.1 - jcz Z849) ≤ 601024; have := hb.1; have := hc.1; omega, by show n9 + (jsz Z849 - jsz Z5) + 0 + (B.2 - jsz Z849) ≤ 7293034; have := hb.2; have := hc.2; omega⟩ dL_law_1622 (fun v858 Z859 I860 L861 q862 j863 => ?_)
  refine j_kn (k' := k9 + (jcz Z859 - jcz Z5) + 0) (n' := n9 + (jsz Z859 - jsz Z5) + 0) (by have := hc.1; have := j863.1; omega) (by have := hc.2; have := j863.2; omega) ?_
  have hc := jle_trans hc j863
  obtain ⟨yZ859, hZ859, hbZ859, r864, rfl, h⟩ := q862
  have hZ := hZ859
  have hx : jext Z0 Z859 := jext_trans hx yZ859
  have hb := hbZ859
  have k865 := (yZ859 _ _ k855).1
  have k866 := (yZ859 _ _ k856).1
  have k867 := (yZ859 _ _ k857).1
  show jJ G 8 1625 [(0, .ref b), (1, .ref v1), (2, .ref v2), (3, .ref v3), (4, .int v4)] [.int r864] Z859 I860 L861 (k9 + (jcz Z859 - jcz Z5) + 0) (n9 + (jsz Z859 - jsz Z5) + 0)
  refine j_pop E dL_law_1625 rfl ?_
  refine j_goto E 1732 dL_law_1626 (by decide) ?_
  refine j_sub [0, 1, 2, 3, 4] rfl ?_
  refine j_widen (k9 := k9 + (jcz Z859 - jcz Z5) + 27) (n9 := n9 + (jsz Z859 - jsz Z5) + 600) (by show k9 + (jcz Z859 - jcz Z5) + 0 ≤ _; omega) (by show n9 + (jsz Z859 - jsz Z5) + 0 ≤ _; omega) ?_
  exact m_L_law_b1732 E hX hV hU hl0 hb9 hn9 K23 hK23 v1 v2 v3 v4 Z859 I860 L861 hZ hx hc hb k865 k866 k867 h
set_option maxRecDepth 100000 in
def f_L_law_b1629 (xs : Nat → Int32) (Ls : Nat) (B : Nat × Nat) (K23 : Nat → Nat → Nat → Int32 → jZ → jI → jL → Prop) (v1 : Nat) (v2 : Nat) (v3 : Nat) (v4 : Int32) (Z : jZ) (I : jI) (L : jL) : Prop := (vp_in (v4 + (1 : Int32)) Ls ∧ (f_X11_keep v1 (xs (v4 + (1 : Int32)).toNatClampNeg) Z I L (fun r875 I871 L872 => (vp_in (v4 + (1 : Int32)) Ls ∧ (f_X12_keep v2 (xs (v4 + (1 : Int32)).toNatClampNeg) Z I871 L872 (fun r883 I879 L880 => f_L_law_b1732 xs Ls B K23 v1 v2 v3 v4 Z I879 L880))))))
set_option maxHeartbeats 4000000 in
set_option maxRecDepth 100000 in
theorem m_L_law_b1629 {G : jG} {Z0 : jZ} {xs : Nat → Int32} {Ls b k9 n9 sa sb : Nat} {B : Nat × Nat} {Z5 : jZ} (E : jE G cL_law RL (Cond.arrayClass .byte :: jT) 8 (some .boolean) room_1 jRL) (hX : va_X b Ls xs (gS G) (gS G).heap ∧ b < (gS G).heap.size ∧ ¬ gA G b) (hV : jV (gA G) (gS G) (gS G).heap) (hU : jU sa sb (gA G) (gS G) (gS G).heap) (hl0 : (gL G).stackTraces = false) (hb9 : k9 + 27 + (B.1 - jcz Z5) ≤ 601024) (hn9 : n9 + 600 + (B.2 - jsz Z5) ≤ 7293034) (K23 : Nat → Nat → Nat → Int32 → jZ → jI → jL → Prop) (hK23 : ∀ (v1 : Nat) (v2 : Nat) (v3 : Nat) (v4 : Int32) (Z : jZ) (I : jI) (L : jL), SH Z → jext Z0 Z → jle Z5 Z → jin B Z → jk Z v1 11 → jk Z v2 12 → jk Z v3 15 → K23 v1 v2 v3 v4 Z I L → jJ G 8 23 [(0, .ref b), (1, .ref v1), (2, .ref v2), (3, .ref v3), (4, .int v4)] [] Z I L (k9 + (jcz Z - jcz Z5) + 27) (n9 + (jsz Z - jsz Z5) + 600)) (v1 : Nat) (v2 : Nat) (v3 : Nat) (v4 : Int32) (Z : jZ) (I : jI) (L : jL) (hZ : SH Z) (hx : jext Z0 Z) (hc : jle Z5 Z) (hb : jin B Z) (kv1 : jk Z v1 11) (kv2 : jk Z v2 12) (kv3 : jk Z v3 15) (h : f_L_law_b1629 xs Ls B K23 v1 v2 v3 v4 Z I L) : jJ G 8 1629 [(0, .ref b), (1, .ref v1), (2, .ref v2), (3, .ref v3), (4, .int v4)] [] Z I L (k9 + (jcz Z - jcz Z5) + 0) (n9 + (jsz Z - jsz Z5) + 0) := by
  unfold f_L_law_b1629 at h
  refine j_aload_n E dL_law_1629 1 rfl ?_
  refine j_aload_n E dL_law_1630 0 rfl ?_
  refine j_iload E dL_law_1631 4 rfl ?_
  refine j_iconst E (v := 1) dL_law_1633 (by decide) ?_
  refine j_iadd E dL_law_1634 ?_
  obtain ⟨o868, h⟩ := h
  refine j_sld E hX.1 hX.2.1 hX.2.2 o868 dL_law_1635 ?_
  refine j_callV E [.int (xs (v4 + (1 : Int32)).toNatClampNeg)] [] (c_X11_keep (gL G) (gD G) (gY G) v1 (xs (v4 + (1 : Int32)).toNatClampNeg) Z I L _ hZ kv1 h) (gwV W_1553 W_1554 W_1555 W_40 W_1552) rfl ⟨rfl, fy_X11_keep⟩ ⟨by decide, by decide⟩ (c := 11) rfl (by decide) kv1 rfl rfl (Nat.le_of_ble_eq_true rfl) ⟨by show k9 + (jcz Z - jcz Z5) + 0 + 0 ≤ 601024; have := hb.1; omega, by show n9 + (jsz Z - jsz Z5) + 0 + 0 ≤ 7293034; have := hb.2; omega⟩ dL_law_1636 (fun v869 Z870 I871 L872 q873 => ?_)
  obtain ⟨rfl, r875, rfl, zr875, h⟩ := q873
  show jJ G 8 1639 [(0, .ref b), (1, .ref v1), (2, .ref v2), (3, .ref v3), (4, .int v4)] [.int r875] Z I871 L872 (k9 + (jcz Z - jcz Z5) + 0) (n9 + (jsz Z - jsz Z5) + 0)
  refine j_pop E dL_law_1639 rfl ?_
  refine j_aload_n E dL_law_1640 2 rfl ?_
  refine j_aload_n E dL_law_1641 0 rfl ?_
  refine j_iload E dL_law_1642 4 rfl ?_
  refine j_iconst E (v := 1) dL_law_1644 (by decide) ?_
  refine j_iadd E dL_law_1645 ?_
  obtain ⟨o876, h⟩ := h
  refine j_sld E hX.1 hX.2.1 hX.2.2 o876 dL_law_1646 ?_
  refine j_callV E [.int (xs (v4 + (1 : Int32)).toNatClampNeg)] [] (c_X12_keep (gL G) (gD G) (gY G) v2 (xs (v4 + (1 : Int32)).toNatClampNeg) Z I871 L872 _ hZ kv2 h) (gwV W_1557 W_1558 W_1559 W_695 W_1556) rfl ⟨rfl, fy_X12_keep⟩ ⟨by decide, by decide⟩ (c := 12) rfl (by decide) kv2 rfl rfl (Nat.le_of_ble_eq_true rfl) ⟨by show k9 + (jcz Z - jcz Z5) + 0 + 0 ≤ 601024; have := hb.1; omega, by show n9 + (jsz Z - jsz Z5) + 0 + 0 ≤ 7293034; have := hb.2; omega⟩ dL_law_1647 (fun v877 Z878 I879 L880 q881 => ?_)
  obtain ⟨rfl, r883, rfl, zr883, h⟩ := q881
  show jJ G 8 1650 [(0, .ref b), (1, .ref v1), (2, .ref v2), (3, .ref v3), (4, .int v4)] [.int r883] Z I879 L880 (k9 + (jcz Z - jcz Z5) + 0) (n9 + (jsz Z - jsz Z5) + 0)
  refine j_pop E dL_law_1650 rfl ?_
  refine j_goto E 1732 dL_law_1651 (by decide) ?_
  refine j_sub [0, 1, 2, 3, 4] rfl ?_
  refine j_widen (k9 := k9 + (jcz Z - jcz Z5) + 27) (n9 := n9 + (jsz Z - jsz Z5) + 600) (by show k9 + (jcz Z - jcz Z5) + 0 ≤ _; omega) (by show n9 + (jsz Z - jsz Z5) + 0 ≤ _; omega) ?_
  exact m_L_law_b1732 E hX hV hU hl0 hb9 hn9 K23 hK23 v1 v2 v3 v4 Z I879 L880 hZ hx hc hb kv1 kv2 kv3 h
set_option maxRecDepth 100000 in
def f_L_law_b1654 (xs : Nat → Int32) (Ls : Nat) (B : Nat × Nat) (K23 : Nat → Nat → Nat → Int32 → jZ → jI → jL → Prop) (v1 : Nat) (v2 : Nat) (v3 : Nat) (v4 : Int32) (Z : jZ) (I : jI) (L : jL) : Prop := (vp_in (v4 + (1 : Int32)) Ls ∧ (f_X11_again v1 (xs (v4 + (1 : Int32)).toNatClampNeg) Z I L (fun r891 I887 L888 => (vp_in (v4 + (1 : Int32)) Ls ∧ (f_X12_again v2 (xs (v4 + (1 : Int32)).toNatClampNeg) Z I887 L888 (fun r899 I895 L896 => f_L_law_b1732 xs Ls B K23 v1 v2 v3 v4 Z I895 L896))))))
set_option maxHeartbeats 4000000 in
set_option maxRecDepth 100000 in
theorem m_L_law_b1654 {G : jG} {Z0 : jZ} {xs : Nat → Int32} {Ls b k9 n9 sa sb : Nat} {B : Nat × Nat} {Z5 : jZ} (E : jE G cL_law RL (Cond.arrayClass .byte :: jT) 8 (some .boolean) room_1 jRL) (hX : va_X b Ls xs (gS G) (gS G).heap ∧ b < (gS G).heap.size ∧ ¬ gA G b) (hV : jV (gA G) (gS G) (gS G).heap) (hU : jU sa sb (gA G) (gS G) (gS G).heap) (hl0 : (gL G).stackTraces = false) (hb9 : k9 + 27 + (B.1 - jcz Z5) ≤ 601024) (hn9 : n9 + 600 + (B.2 - jsz Z5) ≤ 7293034) (K23 : Nat → Nat → Nat → Int32 → jZ → jI → jL → Prop) (hK23 : ∀ (v1 : Nat) (v2 : Nat) (v3 : Nat) (v4 : Int32) (Z : jZ) (I : jI) (L : jL), SH Z → jext Z0 Z → jle Z5 Z → jin B Z → jk Z v1 11 → jk Z v2 12 → jk Z v3 15 → K23 v1 v2 v3 v4 Z I L → jJ G 8 23 [(0, .ref b), (1, .ref v1), (2, .ref v2), (3, .ref v3), (4, .int v4)] [] Z I L (k9 + (jcz Z - jcz Z5) + 27) (n9 + (jsz Z - jsz Z5) + 600)) (v1 : Nat) (v2 : Nat) (v3 : Nat) (v4 : Int32) (Z : jZ) (I : jI) (L : jL) (hZ : SH Z) (hx : jext Z0 Z) (hc : jle Z5 Z) (hb : jin B Z) (kv1 : jk Z v1 11) (kv2 : jk Z v2 12) (kv3 : jk Z v3 15) (h : f_L_law_b1654 xs Ls B K23 v1 v2 v3 v4 Z I L) : jJ G 8 1654 [(0, .ref b), (1, .ref v1), (2, .ref v2), (3, .ref v3), (4, .int v4)] [] Z I L (k9 + (jcz Z - jcz Z5) + 0) (n9 + (jsz Z - jsz Z5) + 0) := by
  unfold f_L_law_b1654 at h
  refine j_aload_n E dL_law_1654 1 rfl ?_
  refine j_aload_n E dL_law_1655 0 rfl ?_
  refine j_iload E dL_law_1656 4 rfl ?_
  refine j_iconst E (v := 1) dL_law_1658 (by decide) ?_
  refine j_iadd E dL_law_1659 ?_
  obtain ⟨o884, h⟩ := h
  refine j_sld E hX.1 hX.2.1 hX.2.2 o884 dL_law_1660 ?_
  refine j_callV E [.int (xs (v4 + (1 : Int32)).toNatClampNeg)] [] (c_X11_again (gL G) (gD G) (gY G) v1 (xs (v4 + (1 : Int32)).toNatClampNeg) Z I L _ hZ kv1 h) (gwV W_1561 W_1562 W_1563 W_40 W_1560) rfl ⟨rfl, fy_X11_again⟩ ⟨by decide, by decide⟩ (c := 11) rfl (by decide) kv1 rfl rfl (Nat.le_of_ble_eq_true rfl) ⟨by show k9 + (jcz Z - jcz Z5) + 0 + 0 ≤ 601024; have := hb.1; omega, by show n9 + (jsz Z - jsz Z5) + 0 + 0 ≤ 7293034; have := hb.2; omega⟩ dL_law_1661 (fun v885 Z886 I887 L888 q889 => ?_)
  obtain ⟨rfl, r891, rfl, zr891, h⟩ := q889
  show jJ G 8 1664 [(0, .ref b), (1, .ref v1), (2, .ref v2), (3, .ref v3), (4, .int v4)] [.int r891] Z I887 L888 (k9 + (jcz Z - jcz Z5) + 0) (n9 + (jsz Z - jsz Z5) + 0)
  refine j_pop E dL_law_1664 rfl ?_
  refine j_aload_n E dL_law_1665 2 rfl ?_
  refine j_aload_n E dL_law_1666 0 rfl ?_
  refine j_iload E dL_law_1667 4 rfl ?_
  refine j_iconst E (v := 1) dL_law_1669 (by decide) ?_
  refine j_iadd E dL_law_1670 ?_
  obtain ⟨o892, h⟩ := h
  refine j_sld E hX.1 hX.2.1 hX.2.2 o892 dL_law_1671 ?_
  refine j_callV E [.int (xs (v4 + (1 : Int32)).toNatClampNeg)] [] (c_X12_again (gL G) (gD G) (gY G) v2 (xs (v4 + (1 : Int32)).toNatClampNeg) Z I887 L888 _ hZ kv2 h) (gwV W_1565 W_1566 W_1567 W_695 W_1564) rfl ⟨rfl, fy_X12_again⟩ ⟨by decide, by decide⟩ (c := 12) rfl (by decide) kv2 rfl rfl (Nat.le_of_ble_eq_true rfl) ⟨by show k9 + (jcz Z - jcz Z5) + 0 + 0 ≤ 601024; have := hb.1; omega, by show n9 + (jsz Z - jsz Z5) + 0 + 0 ≤ 7293034; have := hb.2; omega⟩ dL_law_1672 (fun v893 Z894 I895 L896 q897 => ?_)
  obtain ⟨rfl, r899, rfl, zr899, h⟩ := q897
  show jJ G 8 1675 [(0, .ref b), (1, .ref v1), (2, .ref v2), (3, .ref v3), (4, .int v4)] [.int r899] Z I895 L896 (k9 + (jcz Z - jcz Z5) + 0) (n9 + (jsz Z - jsz Z5) + 0)
  refine j_pop E dL_law_1675 rfl ?_
  refine j_goto E 1732 dL_law_1676 (by decide) ?_
  refine j_sub [0, 1, 2, 3, 4] rfl ?_
  refine j_widen (k9 := k9 + (jcz Z - jcz Z5) + 27) (n9 := n9 + (jsz Z - jsz Z5) + 600) (by show k9 + (jcz Z - jcz Z5) + 0 ≤ _; omega) (by show n9 + (jsz Z - jsz Z5) + 0 ≤ _; omega) ?_
  exact m_L_law_b1732 E hX hV hU hl0 hb9 hn9 K23 hK23 v1 v2 v3 v4 Z I895 L896 hZ hx hc hb kv1 kv2 kv3 h
set_option maxRecDepth 100000 in
def f_L_law_b1679 (xs : Nat → Int32) (Ls : Nat) (B : Nat × Nat) (K23 : Nat → Nat → Nat → Int32 → jZ → jI → jL → Prop) (v1 : Nat) (v2 : Nat) (v3 : Nat) (v4 : Int32) (Z : jZ) (I : jI) (L : jL) : Prop := (vp_in (v4 + (1 : Int32)) Ls ∧ (f_X11_count v1 (xs (v4 + (1 : Int32)).toNatClampNeg) Z I L (fun r907 I903 L904 => (vp_in (v4 + (1 : Int32)) Ls ∧ (f_X12_count v2 (xs (v4 + (1 : Int32)).toNatClampNeg) Z I903 L904 (fun r915 I911 L912 => f_L_law_b1732 xs Ls B K23 v1 v2 v3 v4 Z I911 L912))))))
set_option maxHeartbeats 4000000 in
set_option maxRecDepth 100000 in
theorem m_L_law_b1679 {G : jG} {Z0 : jZ} {xs : Nat → Int32} {Ls b k9 n9 sa sb : Nat} {B : Nat × Nat} {Z5 : jZ} (E : jE G cL_law RL (Cond.arrayClass .byte :: jT) 8 (some .boolean) room_1 jRL) (hX : va_X b Ls xs (gS G) (gS G).heap ∧ b < (gS G).heap.size ∧ ¬ gA G b) (hV : jV (gA G) (gS G) (gS G).heap) (hU : jU sa sb (gA G) (gS G) (gS G).heap) (hl0 : (gL G).stackTraces = false) (hb9 : k9 + 27 + (B.1 - jcz Z5) ≤ 601024) (hn9 : n9 + 600 + (B.2 - jsz Z5) ≤ 7293034) (K23 : Nat → Nat → Nat → Int32 → jZ → jI → jL → Prop) (hK23 : ∀ (v1 : Nat) (v2 : Nat) (v3 : Nat) (v4 : Int32) (Z : jZ) (I : jI) (L : jL), SH Z → jext Z0 Z → jle Z5 Z → jin B Z → jk Z v1 11 → jk Z v2 12 → jk Z v3 15 → K23 v1 v2 v3 v4 Z I L → jJ G 8 23 [(0, .ref b), (1, .ref v1), (2, .ref v2), (3, .ref v3), (4, .int v4)] [] Z I L (k9 + (jcz Z - jcz Z5) + 27) (n9 + (jsz Z - jsz Z5) + 600)) (v1 : Nat) (v2 : Nat) (v3 : Nat) (v4 : Int32) (Z : jZ) (I : jI) (L : jL) (hZ : SH Z) (hx : jext Z0 Z) (hc : jle Z5 Z) (hb : jin B Z) (kv1 : jk Z v1 11) (kv2 : jk Z v2 12) (kv3 : jk Z v3 15) (h : f_L_law_b1679 xs Ls B K23 v1 v2 v3 v4 Z I L) : jJ G 8 1679 [(0, .ref b), (1, .ref v1), (2, .ref v2), (3, .ref v3), (4, .int v4)] [] Z I L (k9 + (jcz Z - jcz Z5) + 0) (n9 + (jsz Z - jsz Z5) + 0) := by
  unfold f_L_law_b1679 at h
  refine j_aload_n E dL_law_1679 1 rfl ?_
  refine j_aload_n E dL_law_1680 0 rfl ?_
  refine j_iload E dL_law_1681 4 rfl ?_
  refine j_iconst E (v := 1) dL_law_1683 (by decide) ?_
  refine j_iadd E dL_law_1684 ?_
  obtain ⟨o900, h⟩ := h
  refine j_sld E hX.1 hX.2.1 hX.2.2 o900 dL_law_1685 ?_
  refine j_callV E [.int (xs (v4 + (1 : Int32)).toNatClampNeg)] [] (c_X11_count (gL G) (gD G) (gY G) v1 (xs (v4 + (1 : Int32)).toNatClampNeg) Z I L _ hZ kv1 h) (gwV W_1569 W_1570 W_1571 W_40 W_1568) rfl ⟨rfl, fy_X11_count⟩ ⟨by decide, by decide⟩ (c := 11) rfl (by decide) kv1 rfl rfl (Nat.le_of_ble_eq_true rfl) ⟨by show k9 + (jcz Z - jcz Z5) + 0 + 0 ≤ 601024; have := hb.1; omega, by show n9 + (jsz Z - jsz Z5) + 0 + 0 ≤ 7293034; have := hb.2; omega⟩ dL_law_1686 (fun v901 Z902 I903 L904 q905 => ?_)
  obtain ⟨rfl, r907, rfl, h⟩ := q905
  show jJ G 8 1689 [(0, .ref b), (1, .ref v1), (2, .ref v2), (3, .ref v3), (4, .int v4)] [.int r907] Z I903 L904 (k9 + (jcz Z - jcz Z5) + 0) (n9 + (jsz Z - jsz Z5) + 0)
  refine j_pop E dL_law_1689 rfl ?_
  refine j_aload_n E dL_law_1690 2 rfl ?_
  refine j_aload_n E dL_law_1691 0 rfl ?_
  refine j_iload E dL_law_1692 4 rfl ?_
  refine j_iconst E (v := 1) dL_law_1694 (by decide) ?_
  refine j_iadd E dL_law_1695 ?_
  obtain ⟨o908, h⟩ := h
  refine j_sld E hX.1 hX.2.1 hX.2.2 o908 dL_law_1696 ?_
  refine j_callV E [.int (xs (v4 + (1 : Int32)).toNatClampNeg)] [] (c_X12_count (gL G) (gD G) (gY G) v2 (xs (v4 + (1 : Int32)).toNatClampNeg) Z I903 L904 _ hZ kv2 h) (gwV W_1573 W_1574 W_1575 W_695 W_1572) rfl ⟨rfl, fy_X12_count⟩ ⟨by decide, by decide⟩ (c := 12) rfl (by decide) kv2 rfl rfl (Nat.le_of_ble_eq_true rfl) ⟨by show k9 + (jcz Z - jcz Z5) + 0 + 0 ≤ 601024; have := hb.1; omega, by show n9 + (jsz Z - jsz Z5) + 0 + 0 ≤ 7293034; have := hb.2; omega⟩ dL_law_1697 (fun v909 Z910 I911 L912 q913 => ?_)
  obtain ⟨rfl, r915, rfl, h⟩ := q913
  show jJ G 8 1700 [(0, .ref b), (1, .ref v1), (2, .ref v2), (3, .ref v3), (4, .int v4)] [.int r915] Z I911 L912 (k9 + (jcz Z - jcz Z5) + 0) (n9 + (jsz Z - jsz Z5) + 0)
  refine j_pop E dL_law_1700 rfl ?_
  refine j_goto E 1732 dL_law_1701 (by decide) ?_
  refine j_sub [0, 1, 2, 3, 4] rfl ?_
  refine j_widen (k9 := k9 + (jcz Z - jcz Z5) + 27) (n9 := n9 + (jsz Z - jsz Z5) + 600) (by show k9 + (jcz Z - jcz Z5) + 0 ≤ _; omega) (by show n9 + (jsz Z - jsz Z5) + 0 ≤ _; omega) ?_
  exact m_L_law_b1732 E hX hV hU hl0 hb9 hn9 K23 hK23 v1 v2 v3 v4 Z I911 L912 hZ hx hc hb kv1 kv2 kv3 h
set_option maxRecDepth 100000 in
def f_L_law_b1704 (xs : Nat → Int32) (Ls : Nat) (B : Nat × Nat) (K23 : Nat → Nat → Nat → Int32 → jZ → jI → jL → Prop) (v1 : Nat) (v2 : Nat) (v3 : Nat) (v4 : Int32) (Z : jZ) (I : jI) (L : jL) : Prop := (vp_in (v4 + (1 : Int32)) Ls ∧ (f_L_row v1 (xs (v4 + (1 : Int32)).toNatClampNeg) v3 Z I L (fun r923 I919 L920 => (vp_in (v4 + (1 : Int32)) Ls ∧ (f_X12_row v2 (xs (v4 + (1 : Int32)).toNatClampNeg) Z I919 L920 (fun r931 I927 L928 => f_L_law_b1732 xs Ls B K23 v1 v2 v3 v4 Z I927 L928))))))
set_option maxHeartbeats 4000000 in
set_option maxRecDepth 100000 in
theorem m_L_law_b1704 {G : jG} {Z0 : jZ} {xs : Nat → Int32} {Ls b k9 n9 sa sb : Nat} {B : Nat × Nat} {Z5 : jZ} (E : jE G cL_law RL (Cond.arrayClass .byte :: jT) 8 (some .boolean) room_1 jRL) (hX : va_X b Ls xs (gS G) (gS G).heap ∧ b < (gS G).heap.size ∧ ¬ gA G b) (hV : jV (gA G) (gS G) (gS G).heap) (hU : jU sa sb (gA G) (gS G) (gS G).heap) (hl0 : (gL G).stackTraces = false) (hb9 : k9 + 27 + (B.1 - jcz Z5) ≤ 601024) (hn9 : n9 + 600 + (B.2 - jsz Z5) ≤ 7293034) (K23 : Nat → Nat → Nat → Int32 → jZ → jI → jL → Prop) (hK23 : ∀ (v1 : Nat) (v2 : Nat) (v3 : Nat) (v4 : Int32) (Z : jZ) (I : jI) (L : jL), SH Z → jext Z0 Z → jle Z5 Z → jin B Z → jk Z v1 11 → jk Z v2 12 → jk Z v3 15 → K23 v1 v2 v3 v4 Z I L → jJ G 8 23 [(0, .ref b), (1, .ref v1), (2, .ref v2), (3, .ref v3), (4, .int v4)] [] Z I L (k9 + (jcz Z - jcz Z5) + 27) (n9 + (jsz Z - jsz Z5) + 600)) (v1 : Nat) (v2 : Nat) (v3 : Nat) (v4 : Int32) (Z : jZ) (I : jI) (L : jL) (hZ : SH Z) (hx : jext Z0 Z) (hc : jle Z5 Z) (hb : jin B Z) (kv1 : jk Z v1 11) (kv2 : jk Z v2 12) (kv3 : jk Z v3 15) (h : f_L_law_b1704 xs Ls B K23 v1 v2 v3 v4 Z I L) : jJ G 8 1704 [(0, .ref b), (1, .ref v1), (2, .ref v2), (3, .ref v3), (4, .int v4)] [] Z I L (k9 + (jcz Z - jcz Z5) + 0) (n9 + (jsz Z - jsz Z5) + 0) := by
  unfold f_L_law_b1704 at h
  refine j_aload_n E dL_law_1704 1 rfl ?_
  refine j_aload_n E dL_law_1705 0 rfl ?_
  refine j_iload E dL_law_1706 4 rfl ?_
  refine j_iconst E (v := 1) dL_law_1708 (by decide) ?_
  refine j_iadd E dL_law_1709 ?_
  obtain ⟨o916, h⟩ := h
  refine j_sld E hX.1 hX.2.1 hX.2.2 o916 dL_law_1710 ?_
  refine j_aload_n E dL_law_1711 3 rfl ?_
  refine j_callSH E hV [.ref v1, .int (xs (v4 + (1 : Int32)).toNatClampNeg), .ref v3] [] (c_L_row (gL G) hl0 (gD G) (gY G) v1 (xs (v4 + (1 : Int32)).toNatClampNeg) v3 Z I L _ hZ kv1 kv3 h) (gwS W_1576 W_1577 W_1241 W_1578) rfl fy_L_row ⟨by decide, by decide⟩ rfl rfl (Nat.le_of_ble_eq_true rfl) ⟨by show k9 + (jcz Z - jcz Z5) + 0 + 1 ≤ 601024; have := hb.1; omega, by show n9 + (jsz Z - jsz Z5) + 0 + 6 ≤ 7293034; have := hb.2; omega⟩ dL_law_1712 (fun v917 Z918 I919 L920 q921 => ?_)
  obtain ⟨rfl, r923, rfl, h⟩ := q921
  show jJ G 8 1715 [(0, .ref b), (1, .ref v1), (2, .ref v2), (3, .ref v3), (4, .int v4)] [.int r923] Z I919 L920 (k9 + (jcz Z - jcz Z5) + 1) (n9 + (jsz Z - jsz Z5) + 6)
  refine j_istore E 5 [(5, .int r923), (0, .ref b), (1, .ref v1), (2, .ref v2), (3, .ref v3), (4, .int v4)] dL_law_1715 (by decide) rfl ?_
  refine j_aload_n E dL_law_1717 3 rfl ?_
  refine j_aload_n E dL_law_1718 1 rfl ?_
  refine j_iload E dL_law_1719 5 rfl ?_
  refine j_iconst E (v := 1) dL_law_1721 (by decide) ?_
  refine j_iadd E dL_law_1722 ?_
  obtain ⟨o924, h⟩ := h
  refine j_sld E hX.1 hX.2.1 hX.2.2 o924 dL_law_1723 ?_
  refine j_callV E [.int (xs (v4 + (1 : Int32)).toNatClampNeg)] [] (c_X12_row (gL G) (gD G) (gY G) v2 (xs (v4 + (1 : Int32)).toNatClampNeg) Z I919 L920 _ hZ kv2 h) (gwV W_1580 W_1581 W_1582 W_695 W_1579) rfl ⟨rfl, fy_X12_row⟩ ⟨by decide, by decide⟩ (c := 12) rfl (by decide) kv2 rfl rfl (Nat.le_of_ble_eq_true rfl) ⟨by show k9 + (jcz Z - jcz Z5) + 1 + 0 ≤ 601024; have := hb.1; omega, by show n9 + (jsz Z - jsz Z5) + 6 + 0 ≤ 7293034; have := hb.2; omega⟩ dL_law_1724 (fun v925 Z926 I927 L928 q929 => ?_)
  obtain ⟨rfl, r931, rfl, h⟩ := q929
  show jJ G 8 1727 [(5, .int r923), (0, .ref b), (1, .ref v1), (2, .ref v2), (3, .ref v3), (4, .int v4)] [.long r931] Z I927 L928 (k9 + (jcz Z - jcz Z5) + 1) (n9 + (jsz Z - jsz Z5) + 6)
  refine j_lstore E 6 [(6, .long r931), (5, .int r923), (0, .ref b), (1, .ref v1), (2, .ref v2), (3, .ref v3), (4, .int v4)] dL_law_1727 (by decide) rfl ?_
  refine j_goto E 1732 dL_law_1729 (by decide) ?_
  refine j_sub [2, 3, 4, 5, 6] rfl ?_
  refine j_widen (k9 := k9 + (jcz Z - jcz Z5) + 27) (n9 := n9 + (jsz Z - jsz Z5) + 600) (by show k9 + (jcz Z - jcz Z5) + 1 ≤ _; omega) (by show n9 + (jsz Z - jsz Z5) + 6 ≤ _; omega) ?_
  exact m_L_law_b1732 E hX hV hU hl0 hb9 hn9 K23 hK23 v1 v2 v3 v4 Z I927 L928 hZ hx hc hb kv1 kv2 kv3 h
set_option maxRecDepth 100000 in
def f_L_law_L23 (xs : Nat → Int32) (Ls : Nat) (B : Nat × Nat) : Nat → Nat → Nat → Nat → Int32 → jZ → jI → jL → Prop
  | 0 => fun _ _ _ _ _ _ _ => False
  | n + 1 => fun v1 v2 v3 v4 Z I L => ((((Int32.ofNat Ls) - (6 : Int32)) < v4 → True) ∧ (¬ (((Int32.ofNat Ls) - (6 : Int32)) < v4) → (vp_in v4 Ls ∧ ((((xs v4.toNatClampNeg) &&& (63 : Int32)) = 0 → f_L_law_b244 xs Ls B (f_L_law_L23 xs Ls B n) v1 v2 v3 v4 Z I L) ∧ (¬ ((xs v4.toNatClampNeg) &&& (63 : Int32)) = 0 → ((((xs v4.toNatClampNeg) &&& (63 : Int32)) = 1 → f_L_law_b269 xs Ls B (f_L_law_L23 xs Ls B n) v1 v2 v3 v4 Z I L) ∧ (¬ ((xs v4.toNatClampNeg) &&& (63 : Int32)) = 1 → ((((xs v4.toNatClampNeg) &&& (63 : Int32)) = 2 → f_L_law_b294 xs Ls B (f_L_law_L23 xs Ls B n) v1 v2 v3 v4 Z I L) ∧ (¬ ((xs v4.toNatClampNeg) &&& (63 : Int32)) = 2 → ((((xs v4.toNatClampNeg) &&& (63 : Int32)) = 3 → f_L_law_b307 xs Ls B (f_L_law_L23 xs Ls B n) v1 v2 v3 v4 Z I L) ∧ (¬ ((xs v4.toNatClampNeg) &&& (63 : Int32)) = 3 → ((((xs v4.toNatClampNeg) &&& (63 : Int32)) = 4 → f_L_law_b332 xs Ls B (f_L_law_L23 xs Ls B n) v1 v2 v3 v4 Z I L) ∧ (¬ ((xs v4.toNatClampNeg) &&& (63 : Int32)) = 4 → ((((xs v4.toNatClampNeg) &&& (63 : Int32)) = 5 → f_L_law_b372 xs Ls B (f_L_law_L23 xs Ls B n) v1 v2 v3 v4 Z I L) ∧ (¬ ((xs v4.toNatClampNeg) &&& (63 : Int32)) = 5 → ((((xs v4.toNatClampNeg) &&& (63 : Int32)) = 6 → f_L_law_b421 xs Ls B (f_L_law_L23 xs Ls B n) v1 v2 v3 v4 Z I L) ∧ (¬ ((xs v4.toNatClampNeg) &&& (63 : Int32)) = 6 → ((((xs v4.toNatClampNeg) &&& (63 : Int32)) = 7 → f_L_law_b482 xs Ls B (f_L_law_L23 xs Ls B n) v1 v2 v3 v4 Z I L) ∧ (¬ ((xs v4.toNatClampNeg) &&& (63 : Int32)) = 7 → ((((xs v4.toNatClampNeg) &&& (63 : Int32)) = 8 → f_L_law_b547 xs Ls B (f_L_law_L23 xs Ls B n) v1 v2 v3 v4 Z I L) ∧ (¬ ((xs v4.toNatClampNeg) &&& (63 : Int32)) = 8 → ((((xs v4.toNatClampNeg) &&& (63 : Int32)) = 9 → f_L_law_b572 xs Ls B (f_L_law_L23 xs Ls B n) v1 v2 v3 v4 Z I L) ∧ (¬ ((xs v4.toNatClampNeg) &&& (63 : Int32)) = 9 → ((((xs v4.toNatClampNeg) &&& (63 : Int32)) = 10 → f_L_law_b633 xs Ls B (f_L_law_L23 xs Ls B n) v1 v2 v3 v4 Z I L) ∧ (¬ ((xs v4.toNatClampNeg) &&& (63 : Int32)) = 10 → ((((xs v4.toNatClampNeg) &&& (63 : Int32)) = 11 → f_L_law_b670 xs Ls B (f_L_law_L23 xs Ls B n) v1 v2 v3 v4 Z I L) ∧ (¬ ((xs v4.toNatClampNeg) &&& (63 : Int32)) = 11 → ((((xs v4.toNatClampNeg) &&& (63 : Int32)) = 12 → f_L_law_b710 xs Ls B (f_L_law_L23 xs Ls B n) v1 v2 v3 v4 Z I L) ∧ (¬ ((xs v4.toNatClampNeg) &&& (63 : Int32)) = 12 → ((((xs v4.toNatClampNeg) &&& (63 : Int32)) = 13 → f_L_law_b747 xs Ls B (f_L_law_L23 xs Ls B n) v1 v2 v3 v4 Z I L) ∧ (¬ ((xs v4.toNatClampNeg) &&& (63 : Int32)) = 13 → ((((xs v4.toNatClampNeg) &&& (63 : Int32)) = 14 → f_L_law_b784 xs Ls B (f_L_law_L23 xs Ls B n) v1 v2 v3 v4 Z I L) ∧ (¬ ((xs v4.toNatClampNeg) &&& (63 : Int32)) = 14 → ((((xs v4.toNatClampNeg) &&& (63 : Int32)) = 15 → f_L_law_b821 xs Ls B (f_L_law_L23 xs Ls B n) v1 v2 v3 v4 Z I L) ∧ (¬ ((xs v4.toNatClampNeg) &&& (63 : Int32)) = 15 → ((((xs v4.toNatClampNeg) &&& (63 : Int32)) = 16 → f_L_law_b846 xs Ls B (f_L_law_L23 xs Ls B n) v1 v2 v3 v4 Z I L) ∧ (¬ ((xs v4.toNatClampNeg) &&& (63 : Int32)) = 16 → ((((xs v4.toNatClampNeg) &&& (63 : Int32)) = 17 → f_L_law_b871 xs Ls B (f_L_law_L23 xs Ls B n) v1 v2 v3 v4 Z I L) ∧ (¬ ((xs v4.toNatClampNeg) &&& (63 : Int32)) = 17 → ((((xs v4.toNatClampNeg) &&& (63 : Int32)) = 18 → f_L_law_b896 xs Ls B (f_L_law_L23 xs Ls B n) v1 v2 v3 v4 Z I L) ∧ (¬ ((xs v4.toNatClampNeg) &&& (63 : Int32)) = 18 → ((((xs v4.toNatClampNeg) &&& (63 : Int32)) = 19 → f_L_law_b921 xs Ls B (f_L_law_L23 xs Ls B n) v1 v2 v3 v4 Z I L) ∧ (¬ ((xs v4.toNatClampNeg) &&& (63 : Int32)) = 19 → ((((xs v4.toNatClampNeg) &&& (63 : Int32)) = 20 → f_L_law_b958 xs Ls B (f_L_law_L23 xs Ls B n) v1 v2 v3 v4 Z I L) ∧ (¬ ((xs v4.toNatClampNeg) &&& (63 : Int32)) = 20 → ((((xs v4.toNatClampNeg) &&& (63 : Int32)) = 21 → f_L_law_b1007 xs Ls B (f_L_law_L23 xs Ls B n) v1 v2 v3 v4 Z I L) ∧ (¬ ((xs v4.toNatClampNeg) &&& (63 : Int32)) = 21 → ((((xs v4.toNatClampNeg) &&& (63 : Int32)) = 22 → f_L_law_b1044 xs Ls B (f_L_law_L23 xs Ls B n) v1 v2 v3 v4 Z I L) ∧ (¬ ((xs v4.toNatClampNeg) &&& (63 : Int32)) = 22 → ((((xs v4.toNatClampNeg) &&& (63 : Int32)) = 23 → f_L_law_b1081 xs Ls B (f_L_law_L23 xs Ls B n) v1 v2 v3 v4 Z I L) ∧ (¬ ((xs v4.toNatClampNeg) &&& (63 : Int32)) = 23 → ((((xs v4.toNatClampNeg) &&& (63 : Int32)) = 24 → f_L_law_b1106 xs Ls B (f_L_law_L23 xs Ls B n) v1 v2 v3 v4 Z I L) ∧ (¬ ((xs v4.toNatClampNeg) &&& (63 : Int32)) = 24 → ((((xs v4.toNatClampNeg) &&& (63 : Int32)) = 25 → f_L_law_b1131 xs Ls B (f_L_law_L23 xs Ls B n) v1 v2 v3 v4 Z I L) ∧ (¬ ((xs v4.toNatClampNeg) &&& (63 : Int32)) = 25 → ((((xs v4.toNatClampNeg) &&& (63 : Int32)) = 26 → f_L_law_b1144 xs Ls B (f_L_law_L23 xs Ls B n) v1 v2 v3 v4 Z I L) ∧ (¬ ((xs v4.toNatClampNeg) &&& (63 : Int32)) = 26 → ((((xs v4.toNatClampNeg) &&& (63 : Int32)) = 27 → f_L_law_b1169 xs Ls B (f_L_law_L23 xs Ls B n) v1 v2 v3 v4 Z I L) ∧ (¬ ((xs v4.toNatClampNeg) &&& (63 : Int32)) = 27 → ((((xs v4.toNatClampNeg) &&& (63 : Int32)) = 28 → f_L_law_b1194 xs Ls B (f_L_law_L23 xs Ls B n) v1 v2 v3 v4 Z I L) ∧ (¬ ((xs v4.toNatClampNeg) &&& (63 : Int32)) = 28 → ((((xs v4.toNatClampNeg) &&& (63 : Int32)) = 29 → f_L_law_b1219 xs Ls B (f_L_law_L23 xs Ls B n) v1 v2 v3 v4 Z I L) ∧ (¬ ((xs v4.toNatClampNeg) &&& (63 : Int32)) = 29 → ((((xs v4.toNatClampNeg) &&& (63 : Int32)) = 30 → f_L_law_b1244 xs Ls B (f_L_law_L23 xs Ls B n) v1 v2 v3 v4 Z I L) ∧ (¬ ((xs v4.toNatClampNeg) &&& (63 : Int32)) = 30 → ((((xs v4.toNatClampNeg) &&& (63 : Int32)) = 31 → f_L_law_b1257 xs Ls B (f_L_law_L23 xs Ls B n) v1 v2 v3 v4 Z I L) ∧ (¬ ((xs v4.toNatClampNeg) &&& (63 : Int32)) = 31 → ((((xs v4.toNatClampNeg) &&& (63 : Int32)) = 32 → f_L_law_b1282 xs Ls B (f_L_law_L23 xs Ls B n) v1 v2 v3 v4 Z I L) ∧ (¬ ((xs v4.toNatClampNeg) &&& (63 : Int32)) = 32 → ((((xs v4.toNatClampNeg) &&& (63 : Int32)) = 33 → f_L_law_b1319 xs Ls B (f_L_law_L23 xs Ls B n) v1 v2 v3 v4 Z I L) ∧ (¬ ((xs v4.toNatClampNeg) &&& (63 : Int32)) = 33 → ((((xs v4.toNatClampNeg) &&& (63 : Int32)) = 34 → f_L_law_b1344 xs Ls B (f_L_law_L23 xs Ls B n) v1 v2 v3 v4 Z I L) ∧ (¬ ((xs v4.toNatClampNeg) &&& (63 : Int32)) = 34 → ((((xs v4.toNatClampNeg) &&& (63 : Int32)) = 35 → f_L_law_b1369 xs Ls B (f_L_law_L23 xs Ls B n) v1 v2 v3 v4 Z I L) ∧ (¬ ((xs v4.toNatClampNeg) &&& (63 : Int32)) = 35 → ((((xs v4.toNatClampNeg) &&& (63 : Int32)) = 36 → f_L_law_b1406 xs Ls B (f_L_law_L23 xs Ls B n) v1 v2 v3 v4 Z I L) ∧ (¬ ((xs v4.toNatClampNeg) &&& (63 : Int32)) = 36 → ((((xs v4.toNatClampNeg) &&& (63 : Int32)) = 37 → f_L_law_b1479 xs Ls B (f_L_law_L23 xs Ls B n) v1 v2 v3 v4 Z I L) ∧ (¬ ((xs v4.toNatClampNeg) &&& (63 : Int32)) = 37 → ((((xs v4.toNatClampNeg) &&& (63 : Int32)) = 38 → f_L_law_b1516 xs Ls B (f_L_law_L23 xs Ls B n) v1 v2 v3 v4 Z I L) ∧ (¬ ((xs v4.toNatClampNeg) &&& (63 : Int32)) = 38 → ((((xs v4.toNatClampNeg) &&& (63 : Int32)) = 39 → f_L_law_b1529 xs Ls B (f_L_law_L23 xs Ls B n) v1 v2 v3 v4 Z I L) ∧ (¬ ((xs v4.toNatClampNeg) &&& (63 : Int32)) = 39 → ((((xs v4.toNatClampNeg) &&& (63 : Int32)) = 40 → f_L_law_b1554 xs Ls B (f_L_law_L23 xs Ls B n) v1 v2 v3 v4 Z I L) ∧ (¬ ((xs v4.toNatClampNeg) &&& (63 : Int32)) = 40 → ((((xs v4.toNatClampNeg) &&& (63 : Int32)) = 41 → f_L_law_b1591 xs Ls B (f_L_law_L23 xs Ls B n) v1 v2 v3 v4 Z I L) ∧ (¬ ((xs v4.toNatClampNeg) &&& (63 : Int32)) = 41 → ((((xs v4.toNatClampNeg) &&& (63 : Int32)) = 42 → f_L_law_b1616 xs Ls B (f_L_law_L23 xs Ls B n) v1 v2 v3 v4 Z I L) ∧ (¬ ((xs v4.toNatClampNeg) &&& (63 : Int32)) = 42 → ((((xs v4.toNatClampNeg) &&& (63 : Int32)) = 43 → f_L_law_b1629 xs Ls B (f_L_law_L23 xs Ls B n) v1 v2 v3 v4 Z I L) ∧ (¬ ((xs v4.toNatClampNeg) &&& (63 : Int32)) = 43 → ((((xs v4.toNatClampNeg) &&& (63 : Int32)) = 44 → f_L_law_b1654 xs Ls B (f_L_law_L23 xs Ls B n) v1 v2 v3 v4 Z I L) ∧ (¬ ((xs v4.toNatClampNeg) &&& (63 : Int32)) = 44 → ((((xs v4.toNatClampNeg) &&& (63 : Int32)) = 45 → f_L_law_b1679 xs Ls B (f_L_law_L23 xs Ls B n) v1 v2 v3 v4 Z I L) ∧ (¬ ((xs v4.toNatClampNeg) &&& (63 : Int32)) = 45 → ((((xs v4.toNatClampNeg) &&& (63 : Int32)) = 46 → f_L_law_b1704 xs Ls B (f_L_law_L23 xs Ls B n) v1 v2 v3 v4 Z I L) ∧ (¬ ((xs v4.toNatClampNeg) &&& (63 : Int32)) = 46 → f_L_law_b1732 xs Ls B (f_L_law_L23 xs Ls B n) v1 v2 v3 v4 Z I L)))))))))))))))))))))))))))))))))))))))))))))))))))))))))))))))))))))))))))))))))))))))))))))))))
set_option maxHeartbeats 4000000 in
set_option maxRecDepth 100000 in
theorem m_L_law_L23 {G : jG} {Z0 : jZ} {xs : Nat → Int32} {Ls b sa sb : Nat} {B : Nat × Nat} {Z5 : jZ} (E : jE G cL_law RL (Cond.arrayClass .byte :: jT) 8 (some .boolean) room_1 jRL) (hX : va_X b Ls xs (gS G) (gS G).heap ∧ b < (gS G).heap.size ∧ ¬ gA G b) (hV : jV (gA G) (gS G) (gS G).heap) (hU : jU sa sb (gA G) (gS G) (gS G).heap) (hl0 : (gL G).stackTraces = false) : ∀ (n k9 n9 : Nat) (v1 : Nat) (v2 : Nat) (v3 : Nat) (v4 : Int32) (Z : jZ) (I : jI) (L : jL), k9 + 27 * n + (B.1 - jcz Z5) ≤ 601024 → n9 + 600 * n + (B.2 - jsz Z5) ≤ 7293034 → SH Z → jext Z0 Z → jle Z5 Z → jin B Z → jk Z v1 11 → jk Z v2 12 → jk Z v3 15 → f_L_law_L23 xs Ls B n v1 v2 v3 v4 Z I L → jJ G 8 23 [(0, .ref b), (1, .ref v1), (2, .ref v2), (3, .ref v3), (4, .int v4)] [] Z I L (k9 + (jcz Z - jcz Z5) + 0) (n9 + (jsz Z - jsz Z5) + 0) := by
  intro n
  induction n with
  | zero => intro k9 n9 v1 v2 v3 v4 Z I L _ _ _ _ _ _ _ _ _ h; exact h.elim
  | succ n ih =>
    intro k9 n9 v1 v2 v3 v4 Z I L q1 q2 hZ hx hc hb kv1 kv2 kv3 h
    have hb9 : k9 + 27 + (B.1 - jcz Z5) ≤ 601024 := by omega
    have hn9 : n9 + 600 + (B.2 - jsz Z5) ≤ 7293034 := by omega
    have hK23 : ∀ (v1 : Nat) (v2 : Nat) (v3 : Nat) (v4 : Int32) (Z : jZ) (I : jI) (L : jL), SH Z → jext Z0 Z → jle Z5 Z → jin B Z → jk Z v1 11 → jk Z v2 12 → jk Z v3 15 → f_L_law_L23 xs Ls B n v1 v2 v3 v4 Z I L → jJ G 8 23 [(0, .ref b), (1, .ref v1), (2, .ref v2), (3, .ref v3), (4, .int v4)] [] Z I L (k9 + (jcz Z - jcz Z5) + 27) (n9 + (jsz Z - jsz Z5) + 600) := fun xv1 xv2 xv3 xv4 Z I L a1 a2 a3 a4 av1 av2 av3 h9 => j_kn (by omega) (by omega) (ih (k9 + 27) (n9 + 600) xv1 xv2 xv3 xv4 Z I L (by omega) (by omega) a1 a2 a3 a4 av1 av2 av3 h9)
    have h : ((((Int32.ofNat Ls) - (6 : Int32)) < v4 → True) ∧ (¬ (((Int32.ofNat Ls) - (6 : Int32)) < v4) → (vp_in v4 Ls ∧ ((((xs v4.toNatClampNeg) &&& (63 : Int32)) = 0 → f_L_law_b244 xs Ls B (f_L_law_L23 xs Ls B n) v1 v2 v3 v4 Z I L) ∧ (¬ ((xs v4.toNatClampNeg) &&& (63 : Int32)) = 0 → ((((xs v4.toNatClampNeg) &&& (63 : Int32)) = 1 → f_L_law_b269 xs Ls B (f_L_law_L23 xs Ls B n) v1 v2 v3 v4 Z I L) ∧ (¬ ((xs v4.toNatClampNeg) &&& (63 : Int32)) = 1 → ((((xs v4.toNatClampNeg) &&& (63 : Int32)) = 2 → f_L_law_b294 xs Ls B (f_L_law_L23 xs Ls B n) v1 v2 v3 v4 Z I L) ∧ (¬ ((xs v4.toNatClampNeg) &&& (63 : Int32)) = 2 → ((((xs v4.toNatClampNeg) &&& (63 : Int32)) = 3 → f_L_law_b307 xs Ls B (f_L_law_L23 xs Ls B n) v1 v2 v3 v4 Z I L) ∧ (¬ ((xs v4.toNatClampNeg) &&& (63 : Int32)) = 3 → ((((xs v4.toNatClampNeg) &&& (63 : Int32)) = 4 → f_L_law_b332 xs Ls B (f_L_law_L23 xs Ls B n) v1 v2 v3 v4 Z I L) ∧ (¬ ((xs v4.toNatClampNeg) &&& (63 : Int32)) = 4 → ((((xs v4.toNatClampNeg) &&& (63 : Int32)) = 5 → f_L_law_b372 xs Ls B (f_L_law_L23 xs Ls B n) v1 v2 v3 v4 Z I L) ∧ (¬ ((xs v4.toNatClampNeg) &&& (63 : Int32)) = 5 → ((((xs v4.toNatClampNeg) &&& (63 : Int32)) = 6 → f_L_law_b421 xs Ls B (f_L_law_L23 xs Ls B n) v1 v2 v3 v4 Z I L) ∧ (¬ ((xs v4.toNatClampNeg) &&& (63 : Int32)) = 6 → ((((xs v4.toNatClampNeg) &&& (63 : Int32)) = 7 → f_L_law_b482 xs Ls B (f_L_law_L23 xs Ls B n) v1 v2 v3 v4 Z I L) ∧ (¬ ((xs v4.toNatClampNeg) &&& (63 : Int32)) = 7 → ((((xs v4.toNatClampNeg) &&& (63 : Int32)) = 8 → f_L_law_b547 xs Ls B (f_L_law_L23 xs Ls B n) v1 v2 v3 v4 Z I L) ∧ (¬ ((xs v4.toNatClampNeg) &&& (63 : Int32)) = 8 → ((((xs v4.toNatClampNeg) &&& (63 : Int32)) = 9 → f_L_law_b572 xs Ls B (f_L_law_L23 xs Ls B n) v1 v2 v3 v4 Z I L) ∧ (¬ ((xs v4.toNatClampNeg) &&& (63 : Int32)) = 9 → ((((xs v4.toNatClampNeg) &&& (63 : Int32)) = 10 → f_L_law_b633 xs Ls B (f_L_law_L23 xs Ls B n) v1 v2 v3 v4 Z I L) ∧ (¬ ((xs v4.toNatClampNeg) &&& (63 : Int32)) = 10 → ((((xs v4.toNatClampNeg) &&& (63 : Int32)) = 11 → f_L_law_b670 xs Ls B (f_L_law_L23 xs Ls B n) v1 v2 v3 v4 Z I L) ∧ (¬ ((xs v4.toNatClampNeg) &&& (63 : Int32)) = 11 → ((((xs v4.toNatClampNeg) &&& (63 : Int32)) = 12 → f_L_law_b710 xs Ls B (f_L_law_L23 xs Ls B n) v1 v2 v3 v4 Z I L) ∧ (¬ ((xs v4.toNatClampNeg) &&& (63 : Int32)) = 12 → ((((xs v4.toNatClampNeg) &&& (63 : Int32)) = 13 → f_L_law_b747 xs Ls B (f_L_law_L23 xs Ls B n) v1 v2 v3 v4 Z I L) ∧ (¬ ((xs v4.toNatClampNeg) &&& (63 : Int32)) = 13 → ((((xs v4.toNatClampNeg) &&& (63 : Int32)) = 14 → f_L_law_b784 xs Ls B (f_L_law_L23 xs Ls B n) v1 v2 v3 v4 Z I L) ∧ (¬ ((xs v4.toNatClampNeg) &&& (63 : Int32)) = 14 → ((((xs v4.toNatClampNeg) &&& (63 : Int32)) = 15 → f_L_law_b821 xs Ls B (f_L_law_L23 xs Ls B n) v1 v2 v3 v4 Z I L) ∧ (¬ ((xs v4.toNatClampNeg) &&& (63 : Int32)) = 15 → ((((xs v4.toNatClampNeg) &&& (63 : Int32)) = 16 → f_L_law_b846 xs Ls B (f_L_law_L23 xs Ls B n) v1 v2 v3 v4 Z I L) ∧ (¬ ((xs v4.toNatClampNeg) &&& (63 : Int32)) = 16 → ((((xs v4.toNatClampNeg) &&& (63 : Int32)) = 17 → f_L_law_b871 xs Ls B (f_L_law_L23 xs Ls B n) v1 v2 v3 v4 Z I L) ∧ (¬ ((xs v4.toNatClampNeg) &&& (63 : Int32)) = 17 → ((((xs v4.toNatClampNeg) &&& (63 : Int32)) = 18 → f_L_law_b896 xs Ls B (f_L_law_L23 xs Ls B n) v1 v2 v3 v4 Z I L) ∧ (¬ ((xs v4.toNatClampNeg) &&& (63 : Int32)) = 18 → ((((xs v4.toNatClampNeg) &&& (63 : Int32)) = 19 → f_L_law_b921 xs Ls B (f_L_law_L23 xs Ls B n) v1 v2 v3 v4 Z I L) ∧ (¬ ((xs v4.toNatClampNeg) &&& (63 : Int32)) = 19 → ((((xs v4.toNatClampNeg) &&& (63 : Int32)) = 20 → f_L_law_b958 xs Ls B (f_L_law_L23 xs Ls B n) v1 v2 v3 v4 Z I L) ∧ (¬ ((xs v4.toNatClampNeg) &&& (63 : Int32)) = 20 → ((((xs v4.toNatClampNeg) &&& (63 : Int32)) = 21 → f_L_law_b1007 xs Ls B (f_L_law_L23 xs Ls B n) v1 v2 v3 v4 Z I L) ∧ (¬ ((xs v4.toNatClampNeg) &&& (63 : Int32)) = 21 → ((((xs v4.toNatClampNeg) &&& (63 : Int32)) = 22 → f_L_law_b1044 xs Ls B (f_L_law_L23 xs Ls B n) v1 v2 v3 v4 Z I L) ∧ (¬ ((xs v4.toNatClampNeg) &&& (63 : Int32)) = 22 → ((((xs v4.toNatClampNeg) &&& (63 : Int32)) = 23 → f_L_law_b1081 xs Ls B (f_L_law_L23 xs Ls B n) v1 v2 v3 v4 Z I L) ∧ (¬ ((xs v4.toNatClampNeg) &&& (63 : Int32)) = 23 → ((((xs v4.toNatClampNeg) &&& (63 : Int32)) = 24 → f_L_law_b1106 xs Ls B (f_L_law_L23 xs Ls B n) v1 v2 v3 v4 Z I L) ∧ (¬ ((xs v4.toNatClampNeg) &&& (63 : Int32)) = 24 → ((((xs v4.toNatClampNeg) &&& (63 : Int32)) = 25 → f_L_law_b1131 xs Ls B (f_L_law_L23 xs Ls B n) v1 v2 v3 v4 Z I L) ∧ (¬ ((xs v4.toNatClampNeg) &&& (63 : Int32)) = 25 → ((((xs v4.toNatClampNeg) &&& (63 : Int32)) = 26 → f_L_law_b1144 xs Ls B (f_L_law_L23 xs Ls B n) v1 v2 v3 v4 Z I L) ∧ (¬ ((xs v4.toNatClampNeg) &&& (63 : Int32)) = 26 → ((((xs v4.toNatClampNeg) &&& (63 : Int32)) = 27 → f_L_law_b1169 xs Ls B (f_L_law_L23 xs Ls B n) v1 v2 v3 v4 Z I L) ∧ (¬ ((xs v4.toNatClampNeg) &&& (63 : Int32)) = 27 → ((((xs v4.toNatClampNeg) &&& (63 : Int32)) = 28 → f_L_law_b1194 xs Ls B (f_L_law_L23 xs Ls B n) v1 v2 v3 v4 Z I L) ∧ (¬ ((xs v4.toNatClampNeg) &&& (63 : Int32)) = 28 → ((((xs v4.toNatClampNeg) &&& (63 : Int32)) = 29 → f_L_law_b1219 xs Ls B (f_L_law_L23 xs Ls B n) v1 v2 v3 v4 Z I L) ∧ (¬ ((xs v4.toNatClampNeg) &&& (63 : Int32)) = 29 → ((((xs v4.toNatClampNeg) &&& (63 : Int32)) = 30 → f_L_law_b1244 xs Ls B (f_L_law_L23 xs Ls B n) v1 v2 v3 v4 Z I L) ∧ (¬ ((xs v4.toNatClampNeg) &&& (63 : Int32)) = 30 → ((((xs v4.toNatClampNeg) &&& (63 : Int32)) = 31 → f_L_law_b1257 xs Ls B (f_L_law_L23 xs Ls B n) v1 v2 v3 v4 Z I L) ∧ (¬ ((xs v4.toNatClampNeg) &&& (63 : Int32)) = 31 → ((((xs v4.toNatClampNeg) &&& (63 : Int32)) = 32 → f_L_law_b1282 xs Ls B (f_L_law_L23 xs Ls B n) v1 v2 v3 v4 Z I L) ∧ (¬ ((xs v4.toNatClampNeg) &&& (63 : Int32)) = 32 → ((((xs v4.toNatClampNeg) &&& (63 : Int32)) = 33 → f_L_law_b1319 xs Ls B (f_L_law_L23 xs Ls B n) v1 v2 v3 v4 Z I L) ∧ (¬ ((xs v4.toNatClampNeg) &&& (63 : Int32)) = 33 → ((((xs v4.toNatClampNeg) &&& (63 : Int32)) = 34 → f_L_law_b1344 xs Ls B (f_L_law_L23 xs Ls B n) v1 v2 v3 v4 Z I L) ∧ (¬ ((xs v4.toNatClampNeg) &&& (63 : Int32)) = 34 → ((((xs v4.toNatClampNeg) &&& (63 : Int32)) = 35 → f_L_law_b1369 xs Ls B (f_L_law_L23 xs Ls B n) v1 v2 v3 v4 Z I L) ∧ (¬ ((xs v4.toNatClampNeg) &&& (63 : Int32)) = 35 → ((((xs v4.toNatClampNeg) &&& (63 : Int32)) = 36 → f_L_law_b1406 xs Ls B (f_L_law_L23 xs Ls B n) v1 v2 v3 v4 Z I L) ∧ (¬ ((xs v4.toNatClampNeg) &&& (63 : Int32)) = 36 → ((((xs v4.toNatClampNeg) &&& (63 : Int32)) = 37 → f_L_law_b1479 xs Ls B (f_L_law_L23 xs Ls B n) v1 v2 v3 v4 Z I L) ∧ (¬ ((xs v4.toNatClampNeg) &&& (63 : Int32)) = 37 → ((((xs v4.toNatClampNeg) &&& (63 : Int32)) = 38 → f_L_law_b1516 xs Ls B (f_L_law_L23 xs Ls B n) v1 v2 v3 v4 Z I L) ∧ (¬ ((xs v4.toNatClampNeg) &&& (63 : Int32)) = 38 → ((((xs v4.toNatClampNeg) &&& (63 : Int32)) = 39 → f_L_law_b1529 xs Ls B (f_L_law_L23 xs Ls B n) v1 v2 v3 v4 Z I L) ∧ (¬ ((xs v4.toNatClampNeg) &&& (63 : Int32)) = 39 → ((((xs v4.toNatClampNeg) &&& (63 : Int32)) = 40 → f_L_law_b1554 xs Ls B (f_L_law_L23 xs Ls B n) v1 v2 v3 v4 Z I L) ∧ (¬ ((xs v4.toNatClampNeg) &&& (63 : Int32)) = 40 → ((((xs v4.toNatClampNeg) &&& (63 : Int32)) = 41 → f_L_law_b1591 xs Ls B (f_L_law_L23 xs Ls B n) v1 v2 v3 v4 Z I L) ∧ (¬ ((xs v4.toNatClampNeg) &&& (63 : Int32)) = 41 → ((((xs v4.toNatClampNeg) &&& (63 : Int32)) = 42 → f_L_law_b1616 xs Ls B (f_L_law_L23 xs Ls B n) v1 v2 v3 v4 Z I L) ∧ (¬ ((xs v4.toNatClampNeg) &&& (63 : Int32)) = 42 → ((((xs v4.toNatClampNeg) &&& (63 : Int32)) = 43 → f_L_law_b1629 xs Ls B (f_L_law_L23 xs Ls B n) v1 v2 v3 v4 Z I L) ∧ (¬ ((xs v4.toNatClampNeg) &&& (63 : Int32)) = 43 → ((((xs v4.toNatClampNeg) &&& (63 : Int32)) = 44 → f_L_law_b1654 xs Ls B (f_L_law_L23 xs Ls B n) v1 v2 v3 v4 Z I L) ∧ (¬ ((xs v4.toNatClampNeg) &&& (63 : Int32)) = 44 → ((((xs v4.toNatClampNeg) &&& (63 : Int32)) = 45 → f_L_law_b1679 xs Ls B (f_L_law_L23 xs Ls B n) v1 v2 v3 v4 Z I L) ∧ (¬ ((xs v4.toNatClampNeg) &&& (63 : Int32)) = 45 → ((((xs v4.toNatClampNeg) &&& (63 : Int32)) = 46 → f_L_law_b1704 xs Ls B (f_L_law_L23 xs Ls B n) v1 v2 v3 v4 Z I L) ∧ (¬ ((xs v4.toNatClampNeg) &&& (63 : Int32)) = 46 → f_L_law_b1732 xs Ls B (f_L_law_L23 xs Ls B n) v1 v2 v3 v4 Z I L))))))))))))))))))))))))))))))))))))))))))))))))))))))))))))))))))))))))))))))))))))))))))))))))) := h
    generalize f_L_law_L23 xs Ls B n = K23 at hK23 h
    refine j_iload E dL_law_23 4 rfl ?_
    refine j_aload_n E dL_law_25 0 rfl ?_
    refine j_slen E hX.1 hX.2.1 hX.2.2 dL_law_26 ?_
    refine j_bipush E (v := 6) dL_law_27 (by decide) ?_
    refine j_isub E dL_law_29 ?_
    refine j_icmp_gt E 1738 dL_law_30 (by decide) (fun c932 => ?_) (fun c932 => ?_)
    · have h := h.1 c932
      refine j_iconst E (v := 1) dL_law_1738 (by decide) ?_
      exact j_zreturn E (Or.inr rfl) rfl (by show k9 + (jcz Z - jcz Z5) + 0 ≤ 601024; have := hb.1; omega) (by show n9 + (jsz Z - jsz Z5) + 0 ≤ 7293034; have := hb.2; omega) dL_law_1739
    · have h := h.2 c932
      refine j_aload_n E dL_law_33 0 rfl ?_
      refine j_iload E dL_law_34 4 rfl ?_
      obtain ⟨o933, h⟩ := h
      refine j_sld E hX.1 hX.2.1 hX.2.2 o933 dL_law_36 ?_
      refine j_bipush E (v := 63) dL_law_37 (by decide) ?_
      refine j_iand E dL_law_39 ?_
      by_cases c934 : ((xs v4.toNatClampNeg) &&& (63 : Int32)) = 0
      · have h := h.1 c934
        refine j_tableIn E (204) 244 dL_law_40 (by rw [c934]; decide) (by rw [c934]; decide) (by rw [c934]; rfl) (by decide) ?_
        refine j_sub [0, 1, 2, 3, 4] rfl ?_
        exact m_L_law_b244 E hX hV hU hl0 hb9 hn9 K23 hK23 v1 v2 v3 v4 Z I L hZ hx hc hb kv1 kv2 kv3 h
      · have h := h.2 c934
        by_cases c935 : ((xs v4.toNatClampNeg) &&& (63 : Int32)) = 1
        · have h := h.1 c935
          refine j_tableIn E (229) 269 dL_law_40 (by rw [c935]; decide) (by rw [c935]; decide) (by rw [c935]; rfl) (by decide) ?_
          refine j_sub [0, 1, 2, 3, 4] rfl ?_
          exact m_L_law_b269 E hX hV hU hl0 hb9 hn9 K23 hK23 v1 v2 v3 v4 Z I L hZ hx hc hb kv1 kv2 kv3 h
        · have h := h.2 c935
          by_cases c936 : ((xs v4.toNatClampNeg) &&& (63 : Int32)) = 2
          · have h := h.1 c936
            refine j_tableIn E (254) 294 dL_law_40 (by rw [c936]; decide) (by rw [c936]; decide) (by rw [c936]; rfl) (by decide) ?_
            refine j_sub [0, 1, 2, 3, 4] rfl ?_
            exact m_L_law_b294 E hX hV hU hl0 hb9 hn9 K23 hK23 v1 v2 v3 v4 Z I L hZ hx hc hb kv1 kv2 kv3 h
          · have h := h.2 c936
            by_cases c937 : ((xs v4.toNatClampNeg) &&& (63 : Int32)) = 3
            · have h := h.1 c937
              refine j_tableIn E (267) 307 dL_law_40 (by rw [c937]; decide) (by rw [c937]; decide) (by rw [c937]; rfl) (by decide) ?_
              refine j_sub [0, 1, 2, 3, 4] rfl ?_
              exact m_L_law_b307 E hX hV hU hl0 hb9 hn9 K23 hK23 v1 v2 v3 v4 Z I L hZ hx hc hb kv1 kv2 kv3 h
            · have h := h.2 c937
              by_cases c938 : ((xs v4.toNatClampNeg) &&& (63 : Int32)) = 4
              · have h := h.1 c938
                refine j_tableIn E (292) 332 dL_law_40 (by rw [c938]; decide) (by rw [c938]; decide) (by rw [c938]; rfl) (by decide) ?_
                refine j_sub [0, 1, 2, 3, 4] rfl ?_
                exact m_L_law_b332 E hX hV hU hl0 hb9 hn9 K23 hK23 v1 v2 v3 v4 Z I L hZ hx hc hb kv1 kv2 kv3 h
              · have h := h.2 c938
                by_cases c939 : ((xs v4.toNatClampNeg) &&& (63 : Int32)) = 5
                · have h := h.1 c939
                  refine j_tableIn E (332) 372 dL_law_40 (by rw [c939]; decide) (by rw [c939]; decide) (by rw [c939]; rfl) (by decide) ?_
                  refine j_sub [0, 1, 2, 3, 4] rfl ?_
                  exact m_L_law_b372 E hX hV hU hl0 hb9 hn9 K23 hK23 v1 v2 v3 v4 Z I L hZ hx hc hb kv1 kv2 kv3 h
                · have h := h.2 c939
                  by_cases c940 : ((xs v4.toNatClampNeg) &&& (63 : Int32)) = 6
                  · have h := h.1 c940
                    refine j_tableIn E (381) 421 dL_law_40 (by rw [c940]; decide) (by rw [c940]; decide) (by rw [c940]; rfl) (by decide) ?_
                    refine j_sub [0, 1, 2, 3, 4] rfl ?_
                    exact m_L_law_b421 E hX hV hU hl0 hb9 hn9 K23 hK23 v1 v2 v3 v4 Z I L hZ hx hc hb kv1 kv2 kv3 h
                  · have h := h.2 c940
                    by_cases c941 : ((xs v4.toNatClampNeg) &&& (63 : Int32)) = 7
                    · have h := h.1 c941
                      refine j_tableIn E (442) 482 dL_law_40 (by rw [c941]; decide) (by rw [c941]; decide) (by rw [c941]; rfl) (by decide) ?_
                      refine j_sub [0, 1, 2, 3, 4] rfl ?_
                      exact m_L_law_b482 E hX hV hU hl0 hb9 hn9 K23 hK23 v1 v2 v3 v4 Z I L hZ hx hc hb kv1 kv2 kv3 h
                    · have h := h.2 c941
                      by_cases c942 : ((xs v4.toNatClampNeg) &&& (63 : Int32)) = 8
                      · have h := h.1 c942
                        refine j_tableIn E (507) 547 dL_law_40 (by rw [c942]; decide) (by rw [c942]; decide) (by rw [c942]; rfl) (by decide) ?_
                        refine j_sub [0, 1, 2, 3, 4] rfl ?_
                        exact m_L_law_b547 E hX hV hU hl0 hb9 hn9 K23 hK23 v1 v2 v3 v4 Z I L hZ hx hc hb kv1 kv2 kv3 h
                      · have h := h.2 c942
                        by_cases c943 : ((xs v4.toNatClampNeg) &&& (63 : Int32)) = 9
                        · have h := h.1 c943
                          refine j_tableIn E (532) 572 dL_law_40 (by rw [c943]; decide) (by rw [c943]; decide) (by rw [c943]; rfl) (by decide) ?_
                          refine j_sub [0, 1, 2, 3, 4] rfl ?_
                          exact m_L_law_b572 E hX hV hU hl0 hb9 hn9 K23 hK23 v1 v2 v3 v4 Z I L hZ hx hc hb kv1 kv2 kv3 h
                        · have h := h.2 c943
                          by_cases c944 : ((xs v4.toNatClampNeg) &&& (63 : Int32)) = 10
                          · have h := h.1 c944
                            refine j_tableIn E (593) 633 dL_law_40 (by rw [c944]; decide) (by rw [c944]; decide) (by rw [c944]; rfl) (by decide) ?_
                            refine j_sub [0, 1, 2, 3, 4] rfl ?_
                            exact m_L_law_b633 E hX hV hU hl0 hb9 hn9 K23 hK23 v1 v2 v3 v4 Z I L hZ hx hc hb kv1 kv2 kv3 h
                          · have h := h.2 c944
                            by_cases c945 : ((xs v4.toNatClampNeg) &&& (63 : Int32)) = 11
                            · have h := h.1 c945
                              refine j_tableIn E (630) 670 dL_law_40 (by rw [c945]; decide) (by rw [c945]; decide) (by rw [c945]; rfl) (by decide) ?_
                              refine j_sub [0, 1, 2, 3, 4] rfl ?_
                              exact m_L_law_b670 E hX hV hU hl0 hb9 hn9 K23 hK23 v1 v2 v3 v4 Z I L hZ hx hc hb kv1 kv2 kv3 h
                            · have h := h.2 c945
                              by_cases c946 : ((xs v4.toNatClampNeg) &&& (63 : Int32)) = 12
                              · have h := h.1 c946
                                refine j_tableIn E (670) 710 dL_law_40 (by rw [c946]; decide) (by rw [c946]; decide) (by rw [c946]; rfl) (by decide) ?_
                                refine j_sub [0, 1, 2, 3, 4] rfl ?_
                                exact m_L_law_b710 E hX hV hU hl0 hb9 hn9 K23 hK23 v1 v2 v3 v4 Z I L hZ hx hc hb kv1 kv2 kv3 h
                              · have h := h.2 c946
                                by_cases c947 : ((xs v4.toNatClampNeg) &&& (63 : Int32)) = 13
                                · have h := h.1 c947
                                  refine j_tableIn E (707) 747 dL_law_40 (by rw [c947]; decide) (by rw [c947]; decide) (by rw [c947]; rfl) (by decide) ?_
                                  refine j_sub [0, 1, 2, 3, 4] rfl ?_
                                  exact m_L_law_b747 E hX hV hU hl0 hb9 hn9 K23 hK23 v1 v2 v3 v4 Z I L hZ hx hc hb kv1 kv2 kv3 h
                                · have h := h.2 c947
                                  by_cases c948 : ((xs v4.toNatClampNeg) &&& (63 : Int32)) = 14
                                  · have h := h.1 c948
                                    refine j_tableIn E (744) 784 dL_law_40 (by rw [c948]; decide) (by rw [c948]; decide) (by rw [c948]; rfl) (by decide) ?_
                                    refine j_sub [0, 1, 2, 3, 4] rfl ?_
                                    exact m_L_law_b784 E hX hV hU hl0 hb9 hn9 K23 hK23 v1 v2 v3 v4 Z I L hZ hx hc hb kv1 kv2 kv3 h
                                  · have h := h.2 c948
                                    by_cases c949 : ((xs v4.toNatClampNeg) &&& (63 : Int32)) = 15
                                    · have h := h.1 c949
                                      refine j_tableIn E (781) 821 dL_law_40 (by rw [c949]; decide) (by rw [c949]; decide) (by rw [c949]; rfl) (by decide) ?_
                                      refine j_sub [0, 1, 2, 3, 4] rfl ?_
                                      exact m_L_law_b821 E hX hV hU hl0 hb9 hn9 K23 hK23 v1 v2 v3 v4 Z I L hZ hx hc hb kv1 kv2 kv3 h
                                    · have h := h.2 c949
                                      by_cases c950 : ((xs v4.toNatClampNeg) &&& (63 : Int32)) = 16
                                      · have h := h.1 c950
                                        refine j_tableIn E (806) 846 dL_law_40 (by rw [c950]; decide) (by rw [c950]; decide) (by rw [c950]; rfl) (by decide) ?_
                                        refine j_sub [0, 1, 2, 3, 4] rfl ?_
                                        exact m_L_law_b846 E hX hV hU hl0 hb9 hn9 K23 hK23 v1 v2 v3 v4 Z I L hZ hx hc hb kv1 kv2 kv3 h
                                      · have h := h.2 c950
                                        by_cases c951 : ((xs v4.toNatClampNeg) &&& (63 : Int32)) = 17
                                        · have h := h.1 c951
                                          refine j_tableIn E (831) 871 dL_law_40 (by rw [c951]; decide) (by rw [c951]; decide) (by rw [c951]; rfl) (by decide) ?_
                                          refine j_sub [0, 1, 2, 3, 4] rfl ?_
                                          exact m_L_law_b871 E hX hV hU hl0 hb9 hn9 K23 hK23 v1 v2 v3 v4 Z I L hZ hx hc hb kv1 kv2 kv3 h
                                        · have h := h.2 c951
                                          by_cases c952 : ((xs v4.toNatClampNeg) &&& (63 : Int32)) = 18
                                          · have h := h.1 c952
                                            refine j_tableIn E (856) 896 dL_law_40 (by rw [c952]; decide) (by rw [c952]; decide) (by rw [c952]; rfl) (by decide) ?_
                                            refine j_sub [0, 1, 2, 3, 4] rfl ?_
                                            exact m_L_law_b896 E hX hV hU hl0 hb9 hn9 K23 hK23 v1 v2 v3 v4 Z I L hZ hx hc hb kv1 kv2 kv3 h
                                          · have h := h.2 c952
                                            by_cases c953 : ((xs v4.toNatClampNeg) &&& (63 : Int32)) = 19
                                            · have h := h.1 c953
                                              refine j_tableIn E (881) 921 dL_law_40 (by rw [c953]; decide) (by rw [c953]; decide) (by rw [c953]; rfl) (by decide) ?_
                                              refine j_sub [0, 1, 2, 3, 4] rfl ?_
                                              exact m_L_law_b921 E hX hV hU hl0 hb9 hn9 K23 hK23 v1 v2 v3 v4 Z I L hZ hx hc hb kv1 kv2 kv3 h
                                            · have h := h.2 c953
                                              by_cases c954 : ((xs v4.toNatClampNeg) &&& (63 : Int32)) = 20
                                              · have h := h.1 c954
                                                refine j_tableIn E (918) 958 dL_law_40 (by rw [c954]; decide) (by rw [c954]; decide) (by rw [c954]; rfl) (by decide) ?_
                                                refine j_sub [0, 1, 2, 3, 4] rfl ?_
                                                exact m_L_law_b958 E hX hV hU hl0 hb9 hn9 K23 hK23 v1 v2 v3 v4 Z I L hZ hx hc hb kv1 kv2 kv3 h
                                              · have h := h.2 c954
                                                by_cases c955 : ((xs v4.toNatClampNeg) &&& (63 : Int32)) = 21
                                                · have h := h.1 c955
                                                  refine j_tableIn E (967) 1007 dL_law_40 (by rw [c955]; decide) (by rw [c955]; decide) (by rw [c955]; rfl) (by decide) ?_
                                                  refine j_sub [0, 1, 2, 3, 4] rfl ?_
                                                  exact m_L_law_b1007 E hX hV hU hl0 hb9 hn9 K23 hK23 v1 v2 v3 v4 Z I L hZ hx hc hb kv1 kv2 kv3 h
                                                · have h := h.2 c955
                                                  by_cases c956 : ((xs v4.toNatClampNeg) &&& (63 : Int32)) = 22
                                                  · have h := h.1 c956
                                                    refine j_tableIn E (1004) 1044 dL_law_40 (by rw [c956]; decide) (by rw [c956]; decide) (by rw [c956]; rfl) (by decide) ?_
                                                    refine j_sub [0, 1, 2, 3, 4] rfl ?_
                                                    exact m_L_law_b1044 E hX hV hU hl0 hb9 hn9 K23 hK23 v1 v2 v3 v4 Z I L hZ hx hc hb kv1 kv2 kv3 h
                                                  · have h := h.2 c956
                                                    by_cases c957 : ((xs v4.toNatClampNeg) &&& (63 : Int32)) = 23
                                                    · have h := h.1 c957
                                                      refine j_tableIn E (1041) 1081 dL_law_40 (by rw [c957]; decide) (by rw [c957]; decide) (by rw [c957]; rfl) (by decide) ?_
                                                      refine j_sub [0, 1, 2, 3, 4] rfl ?_
                                                      exact m_L_law_b1081 E hX hV hU hl0 hb9 hn9 K23 hK23 v1 v2 v3 v4 Z I L hZ hx hc hb kv1 kv2 kv3 h
                                                    · have h := h.2 c957
                                                      by_cases c958 : ((xs v4.toNatClampNeg) &&& (63 : Int32)) = 24
                                                      · have h := h.1 c958
                                                        refine j_tableIn E (1066) 1106 dL_law_40 (by rw [c958]; decide) (by rw [c958]; decide) (by rw [c958]; rfl) (by decide) ?_
                                                        refine j_sub [0, 1, 2, 3, 4] rfl ?_
                                                        exact m_L_law_b1106 E hX hV hU hl0 hb9 hn9 K23 hK23 v1 v2 v3 v4 Z I L hZ hx hc hb kv1 kv2 kv3 h
                                                      · have h := h.2 c958
                                                        by_cases c959 : ((xs v4.toNatClampNeg) &&& (63 : Int32)) = 25
                                                        · have h := h.1 c959
                                                          refine j_tableIn E (1091) 1131 dL_law_40 (by rw [c959]; decide) (by rw [c959]; decide) (by rw [c959]; rfl) (by decide) ?_
                                                          refine j_sub [0, 1, 2, 3, 4] rfl ?_
                                                          exact m_L_law_b1131 E hX hV hU hl0 hb9 hn9 K23 hK23 v1 v2 v3 v4 Z I L hZ hx hc hb kv1 kv2 kv3 h
                                                        · have h := h.2 c959
                                                          by_cases c960 : ((xs v4.toNatClampNeg) &&& (63 : Int32)) = 26
                                                          · have h := h.1 c960
                                                            refine j_tableIn E (1104) 1144 dL_law_40 (by rw [c960]; decide) (by rw [c960]; decide) (by rw [c960]; rfl) (by decide) ?_
                                                            refine j_sub [0, 1, 2, 3, 4] rfl ?_
                                                            exact m_L_law_b1144 E hX hV hU hl0 hb9 hn9 K23 hK23 v1 v2 v3 v4 Z I L hZ hx hc hb kv1 kv2 kv3 h
                                                          · have h := h.2 c960
                                                            by_cases c961 : ((xs v4.toNatClampNeg) &&& (63 : Int32)) = 27
                                                            · have h := h.1 c961
                                                              refine j_tableIn E (1129) 1169 dL_law_40 (by rw [c961]; decide) (by rw [c961]; decide) (by rw [c961]; rfl) (by decide) ?_
                                                              refine j_sub [0, 1, 2, 3, 4] rfl ?_
                                                              exact m_L_law_b1169 E hX hV hU hl0 hb9 hn9 K23 hK23 v1 v2 v3 v4 Z I L hZ hx hc hb kv1 kv2 kv3 h
                                                            · have h := h.2 c961
                                                              by_cases c962 : ((xs v4.toNatClampNeg) &&& (63 : Int32)) = 28
                                                              · have h := h.1 c962
                                                                refine j_tableIn E (1154) 1194 dL_law_40 (by rw [c962]; decide) (by rw [c962]; decide) (by rw [c962]; rfl) (by decide) ?_
                                                                refine j_sub [0, 1, 2, 3, 4] rfl ?_
                                                                exact m_L_law_b1194 E hX hV hU hl0 hb9 hn9 K23 hK23 v1 v2 v3 v4 Z I L hZ hx hc hb kv1 kv2 kv3 h
                                                              · have h := h.2 c962
                                                                by_cases c963 : ((xs v4.toNatClampNeg) &&& (63 : Int32)) = 29
                                                                · have h := h.1 c963
                                                                  refine j_tableIn E (1179) 1219 dL_law_40 (by rw [c963]; decide) (by rw [c963]; decide) (by rw [c963]; rfl) (by decide) ?_
                                                                  refine j_sub [0, 1, 2, 3, 4] rfl ?_
                                                                  exact m_L_law_b1219 E hX hV hU hl0 hb9 hn9 K23 hK23 v1 v2 v3 v4 Z I L hZ hx hc hb kv1 kv2 kv3 h
                                                                · have h := h.2 c963
                                                                  by_cases c964 : ((xs v4.toNatClampNeg) &&& (63 : Int32)) = 30
                                                                  · have h := h.1 c964
                                                                    refine j_tableIn E (1204) 1244 dL_law_40 (by rw [c964]; decide) (by rw [c964]; decide) (by rw [c964]; rfl) (by decide) ?_
                                                                    refine j_sub [0, 1, 2, 3, 4] rfl ?_
                                                                    exact m_L_law_b1244 E hX hV hU hl0 hb9 hn9 K23 hK23 v1 v2 v3 v4 Z I L hZ hx hc hb kv1 kv2 kv3 h
                                                                  · have h := h.2 c964
                                                                    by_cases c965 : ((xs v4.toNatClampNeg) &&& (63 : Int32)) = 31
                                                                    · have h := h.1 c965
                                                                      refine j_tableIn E (1217) 1257 dL_law_40 (by rw [c965]; decide) (by rw [c965]; decide) (by rw [c965]; rfl) (by decide) ?_
                                                                      refine j_sub [0, 1, 2, 3, 4] rfl ?_
                                                                      exact m_L_law_b1257 E hX hV hU hl0 hb9 hn9 K23 hK23 v1 v2 v3 v4 Z I L hZ hx hc hb kv1 kv2 kv3 h
                                                                    · have h := h.2 c965
                                                                      by_cases c966 : ((xs v4.toNatClampNeg) &&& (63 : Int32)) = 32
                                                                      · have h := h.1 c966
                                                                        refine j_tableIn E (1242) 1282 dL_law_40 (by rw [c966]; decide) (by rw [c966]; decide) (by rw [c966]; rfl) (by decide) ?_
                                                                        refine j_sub [0, 1, 2, 3, 4] rfl ?_
                                                                        exact m_L_law_b1282 E hX hV hU hl0 hb9 hn9 K23 hK23 v1 v2 v3 v4 Z I L hZ hx hc hb kv1 kv2 kv3 h
                                                                      · have h := h.2 c966
                                                                        by_cases c967 : ((xs v4.toNatClampNeg) &&& (63 : Int32)) = 33
                                                                        · have h := h.1 c967
                                                                          refine j_tableIn E (1279) 1319 dL_law_40 (by rw [c967]; decide) (by rw [c967]; decide) (by rw [c967]; rfl) (by decide) ?_
                                                                          refine j_sub [0, 1, 2, 3, 4] rfl ?_
                                                                          exact m_L_law_b1319 E hX hV hU hl0 hb9 hn9 K23 hK23 v1 v2 v3 v4 Z I L hZ hx hc hb kv1 kv2 kv3 h
                                                                        · have h := h.2 c967
                                                                          by_cases c968 : ((xs v4.toNatClampNeg) &&& (63 : Int32)) = 34
                                                                          · have h := h.1 c968
                                                                            refine j_tableIn E (1304) 1344 dL_law_40 (by rw [c968]; decide) (by rw [c968]; decide) (by rw [c968]; rfl) (by decide) ?_
                                                                            refine j_sub [0, 1, 2, 3, 4] rfl ?_
                                                                            exact m_L_law_b1344 E hX hV hU hl0 hb9 hn9 K23 hK23 v1 v2 v3 v4 Z I L hZ hx hc hb kv1 kv2 kv3 h
                                                                          · have h := h.2 c968
                                                                            by_cases c969 : ((xs v4.toNatClampNeg) &&& (63 : Int32)) = 35
                                                                            · have h := h.1 c969
                                                                              refine j_tableIn E (1329) 1369 dL_law_40 (by rw [c969]; decide) (by rw [c969]; decide) (by rw [c969]; rfl) (by decide) ?_
                                                                              refine j_sub [0, 1, 2, 3, 4] rfl ?_
                                                                              exact m_L_law_b1369 E hX hV hU hl0 hb9 hn9 K23 hK23 v1 v2 v3 v4 Z I L hZ hx hc hb kv1 kv2 kv3 h
                                                                            · have h := h.2 c969
                                                                              by_cases c970 : ((xs v4.toNatClampNeg) &&& (63 : Int32)) = 36
                                                                              · have h := h.1 c970
                                                                                refine j_tableIn E (1366) 1406 dL_law_40 (by rw [c970]; decide) (by rw [c970]; decide) (by rw [c970]; rfl) (by decide) ?_
                                                                                refine j_sub [0, 1, 2, 3, 4] rfl ?_
                                                                                exact m_L_law_b1406 E hX hV hU hl0 hb9 hn9 K23 hK23 v1 v2 v3 v4 Z I L hZ hx hc hb kv1 kv2 kv3 h
                                                                              · have h := h.2 c970
                                                                                by_cases c971 : ((xs v4.toNatClampNeg) &&& (63 : Int32)) = 37
                                                                                · have h := h.1 c971
                                                                                  refine j_tableIn E (1439) 1479 dL_law_40 (by rw [c971]; decide) (by rw [c971]; decide) (by rw [c971]; rfl) (by decide) ?_
                                                                                  refine j_sub [0, 1, 2, 3, 4] rfl ?_
                                                                                  exact m_L_law_b1479 E hX hV hU hl0 hb9 hn9 K23 hK23 v1 v2 v3 v4 Z I L hZ hx hc hb kv1 kv2 kv3 h
                                                                                · have h := h.2 c971
                                                                                  by_cases c972 : ((xs v4.toNatClampNeg) &&& (63 : Int32)) = 38
                                                                                  · have h := h.1 c972
                                                                                    refine j_tableIn E (1476) 1516 dL_law_40 (by rw [c972]; decide) (by rw [c972]; decide) (by rw [c972]; rfl) (by decide) ?_
                                                                                    refine j_sub [0, 1, 2, 3, 4] rfl ?_
                                                                                    exact m_L_law_b1516 E hX hV hU hl0 hb9 hn9 K23 hK23 v1 v2 v3 v4 Z I L hZ hx hc hb kv1 kv2 kv3 h
                                                                                  · have h := h.2 c972
                                                                                    by_cases c973 : ((xs v4.toNatClampNeg) &&& (63 : Int32)) = 39
                                                                                    · have h := h.1 c973
                                                                                      refine j_tableIn E (1489) 1529 dL_law_40 (by rw [c973]; decide) (by rw [c973]; decide) (by rw [c973]; rfl) (by decide) ?_
                                                                                      refine j_sub [0, 1, 2, 3, 4] rfl ?_
                                                                                      exact m_L_law_b1529 E hX hV hU hl0 hb9 hn9 K23 hK23 v1 v2 v3 v4 Z I L hZ hx hc hb kv1 kv2 kv3 h
                                                                                    · have h := h.2 c973
                                                                                      by_cases c974 : ((xs v4.toNatClampNeg) &&& (63 : Int32)) = 40
                                                                                      · have h := h.1 c974
                                                                                        refine j_tableIn E (1514) 1554 dL_law_40 (by rw [c974]; decide) (by rw [c974]; decide) (by rw [c974]; rfl) (by decide) ?_
                                                                                        refine j_sub [0, 1, 2, 3, 4] rfl ?_
                                                                                        exact m_L_law_b1554 E hX hV hU hl0 hb9 hn9 K23 hK23 v1 v2 v3 v4 Z I L hZ hx hc hb kv1 kv2 kv3 h
                                                                                      · have h := h.2 c974
                                                                                        by_cases c975 : ((xs v4.toNatClampNeg) &&& (63 : Int32)) = 41
                                                                                        · have h := h.1 c975
                                                                                          refine j_tableIn E (1551) 1591 dL_law_40 (by rw [c975]; decide) (by rw [c975]; decide) (by rw [c975]; rfl) (by decide) ?_
                                                                                          refine j_sub [0, 1, 2, 3, 4] rfl ?_
                                                                                          exact m_L_law_b1591 E hX hV hU hl0 hb9 hn9 K23 hK23 v1 v2 v3 v4 Z I L hZ hx hc hb kv1 kv2 kv3 h
                                                                                        · have h := h.2 c975
                                                                                          by_cases c976 : ((xs v4.toNatClampNeg) &&& (63 : Int32)) = 42
                                                                                          · have h := h.1 c976
                                                                                            refine j_tableIn E (1576) 1616 dL_law_40 (by rw [c976]; decide) (by rw [c976]; decide) (by rw [c976]; rfl) (by decide) ?_
                                                                                            refine j_sub [0, 1, 2, 3, 4] rfl ?_
                                                                                            exact m_L_law_b1616 E hX hV hU hl0 hb9 hn9 K23 hK23 v1 v2 v3 v4 Z I L hZ hx hc hb kv1 kv2 kv3 h
                                                                                          · have h := h.2 c976
                                                                                            by_cases c977 : ((xs v4.toNatClampNeg) &&& (63 : Int32)) = 43
                                                                                            · have h := h.1 c977
                                                                                              refine j_tableIn E (1589) 1629 dL_law_40 (by rw [c977]; decide) (by rw [c977]; decide) (by rw [c977]; rfl) (by decide) ?_
                                                                                              refine j_sub [0, 1, 2, 3, 4] rfl ?_
                                                                                              exact m_L_law_b1629 E hX hV hU hl0 hb9 hn9 K23 hK23 v1 v2 v3 v4 Z I L hZ hx hc hb kv1 kv2 kv3 h
                                                                                            · have h := h.2 c977
                                                                                              by_cases c978 : ((xs v4.toNatClampNeg) &&& (63 : Int32)) = 44
                                                                                              · have h := h.1 c978
                                                                                                refine j_tableIn E (1614) 1654 dL_law_40 (by rw [c978]; decide) (by rw [c978]; decide) (by rw [c978]; rfl) (by decide) ?_
                                                                                                refine j_sub [0, 1, 2, 3, 4] rfl ?_
                                                                                                exact m_L_law_b1654 E hX hV hU hl0 hb9 hn9 K23 hK23 v1 v2 v3 v4 Z I L hZ hx hc hb kv1 kv2 kv3 h
                                                                                              · have h := h.2 c978
                                                                                                by_cases c979 : ((xs v4.toNatClampNeg) &&& (63 : Int32)) = 45
                                                                                                · have h := h.1 c979
                                                                                                  refine j_tableIn E (1639) 1679 dL_law_40 (by rw [c979]; decide) (by rw [c979]; decide) (by rw [c979]; rfl) (by decide) ?_
                                                                                                  refine j_sub [0, 1, 2, 3, 4] rfl ?_
                                                                                                  exact m_L_law_b1679 E hX hV hU hl0 hb9 hn9 K23 hK23 v1 v2 v3 v4 Z I L hZ hx hc hb kv1 kv2 kv3 h
                                                                                                · have h := h.2 c979
                                                                                                  by_cases c980 : ((xs v4.toNatClampNeg) &&& (63 : Int32)) = 46
                                                                                                  · have h := h.1 c980
                                                                                                    refine j_tableIn E (1664) 1704 dL_law_40 (by rw [c980]; decide) (by rw [c980]; decide) (by rw [c980]; rfl) (by decide) ?_
                                                                                                    refine j_sub [0, 1, 2, 3, 4] rfl ?_
                                                                                                    exact m_L_law_b1704 E hX hV hU hl0 hb9 hn9 K23 hK23 v1 v2 v3 v4 Z I L hZ hx hc hb kv1 kv2 kv3 h
                                                                                                  · have h := h.2 c980
                                                                                                    refine j_tableOut E 1732 dL_law_40 (by have tc934 := lv_neT (k := 0) (a := 0) c934 rfl; have tc935 := lv_neT (k := 1) (a := 1) c935 rfl; have tc936 := lv_neT (k := 2) (a := 2) c936 rfl; have tc937 := lv_neT (k := 3) (a := 3) c937 rfl; have tc938 := lv_neT (k := 4) (a := 4) c938 rfl; have tc939 := lv_neT (k := 5) (a := 5) c939 rfl; have tc940 := lv_neT (k := 6) (a := 6) c940 rfl; have tc941 := lv_neT (k := 7) (a := 7) c941 rfl; have tc942 := lv_neT (k := 8) (a := 8) c942 rfl; have tc943 := lv_neT (k := 9) (a := 9) c943 rfl; have tc944 := lv_neT (k := 10) (a := 10) c944 rfl; have tc945 := lv_neT (k := 11) (a := 11) c945 rfl; have tc946 := lv_neT (k := 12) (a := 12) c946 rfl; have tc947 := lv_neT (k := 13) (a := 13) c947 rfl; have tc948 := lv_neT (k := 14) (a := 14) c948 rfl; have tc949 := lv_neT (k := 15) (a := 15) c949 rfl; have tc950 := lv_neT (k := 16) (a := 16) c950 rfl; have tc951 := lv_neT (k := 17) (a := 17) c951 rfl; have tc952 := lv_neT (k := 18) (a := 18) c952 rfl; have tc953 := lv_neT (k := 19) (a := 19) c953 rfl; have tc954 := lv_neT (k := 20) (a := 20) c954 rfl; have tc955 := lv_neT (k := 21) (a := 21) c955 rfl; have tc956 := lv_neT (k := 22) (a := 22) c956 rfl; have tc957 := lv_neT (k := 23) (a := 23) c957 rfl; have tc958 := lv_neT (k := 24) (a := 24) c958 rfl; have tc959 := lv_neT (k := 25) (a := 25) c959 rfl; have tc960 := lv_neT (k := 26) (a := 26) c960 rfl; have tc961 := lv_neT (k := 27) (a := 27) c961 rfl; have tc962 := lv_neT (k := 28) (a := 28) c962 rfl; have tc963 := lv_neT (k := 29) (a := 29) c963 rfl; have tc964 := lv_neT (k := 30) (a := 30) c964 rfl; have tc965 := lv_neT (k := 31) (a := 31) c965 rfl; have tc966 := lv_neT (k := 32) (a := 32) c966 rfl; have tc967 := lv_neT (k := 33) (a := 33) c967 rfl; have tc968 := lv_neT (k := 34) (a := 34) c968 rfl; have tc969 := lv_neT (k := 35) (a := 35) c969 rfl; have tc970 := lv_neT (k := 36) (a := 36) c970 rfl; have tc971 := lv_neT (k := 37) (a := 37) c971 rfl; have tc972 := lv_neT (k := 38) (a := 38) c972 rfl; have tc973 := lv_neT (k := 39) (a := 39) c973 rfl; have tc974 := lv_neT (k := 40) (a := 40) c974 rfl; have tc975 := lv_neT (k := 41) (a := 41) c975 rfl; have tc976 := lv_neT (k := 42) (a := 42) c976 rfl; have tc977 := lv_neT (k := 43) (a := 43) c977 rfl; have tc978 := lv_neT (k := 44) (a := 44) c978 rfl; have tc979 := lv_neT (k := 45) (a := 45) c979 rfl; have tc980 := lv_neT (k := 46) (a := 46) c980 rfl; omega) (by decide) ?_
                                                                                                    refine j_sub [0, 1, 2, 3, 4] rfl ?_
                                                                                                    refine j_widen (k9 := k9 + (jcz Z - jcz Z5) + 27) (n9 := n9 + (jsz Z - jsz Z5) + 600) (by show k9 + (jcz Z - jcz Z5) + 0 ≤ _; omega) (by show n9 + (jsz Z - jsz Z5) + 0 ≤ _; omega) ?_
                                                                                                    exact m_L_law_b1732 E hX hV hU hl0 hb9 hn9 K23 hK23 v1 v2 v3 v4 Z I L hZ hx hc hb kv1 kv2 kv3 h
/-- no ints, no longs -/
def jIe : jI := fun _ _ => 0
def jLe : jL := fun _ _ => 0
set_option maxRecDepth 100000 in
def f_L_law (xs : Nat → Int32) (Ls : Nat) : Prop := (∀ q981 : Nat, q981 ∉ jZe.1 → ∀ Z982 : jZ, Z982 = jnw jZe q981 11 0 → ∀ I983 : jI, I983 = jz0 jIe q981 → ∀ L984 : jL, L984 = jzL jLe q981 → (f_X11_init q981 Z982 I983 L984 (fun Z986 I987 L988 => (∀ q991 : Nat, q991 ∉ Z986.1 → ∀ Z992 : jZ, Z992 = jnw Z986 q991 12 0 → ∀ I993 : jI, I993 = jz0 I987 q991 → ∀ L994 : jL, L994 = jzL L988 q991 → (f_X12_init q991 Z992 I993 L994 (fun Z997 I998 L999 => (∀ q1003 : Nat, q1003 ∉ Z997.1 → ∀ Z1004 : jZ, Z1004 = jnw Z997 q1003 15 1 → ∀ I1005 : jI, I1005 = jz0 I998 q1003 → ∀ L1006 : jL, L1006 = jzL L999 q1003 → (SH Z1004 ∧ ∃ (B : Nat × Nat) (m9 : Nat), (m9 ≤ 513 ∧ jin B Z1004 ∧ B.1 ≤ jcz Z1004 + 50000 ∧ B.2 ≤ jsz Z1004 + 6000000) ∧ f_L_law_L23 xs Ls B m9 q981 q991 q1003 (0 : Int32) Z1004 I1005 L1006))))))))
set_option maxHeartbeats 4000000 in
set_option maxRecDepth 100000 in
theorem m_L_law {G : jG} {xs : Nat → Int32} {Ls b sa sb : Nat} (E : jE G cL_law RL (Cond.arrayClass .byte :: jT) 8 (some .boolean) room_1 jRL) (hX : va_X b Ls xs (gS G) (gS G).heap ∧ b < (gS G).heap.size ∧ ¬ gA G b) (hV : jV (gA G) (gS G) (gS G).heap) (hU : jU sa sb (gA G) (gS G) (gS G).heap) (hl0 : (gL G).stackTraces = false) (h : f_L_law xs Ls) : jJ G 8 0 [(0, .ref b)] [] jZe jIe jLe 0 0 := by
  unfold f_L_law at h
  have hx : jext jZe jZe := jext_rfl
  refine j_new E 11 rfl rfl (by decide) (iw iT_11) tyX11_ok (by decide) (tw W_1583) (tw W_1584) (tw W_40) (by decide) (by decide) dL_law_0 (fun q981 nq981 => ?_)
  refine j_nmZ (fun Z982 eZ982 => ?_)
  refine j_nmI (fun I983 eI983 => ?_)
  refine j_nmL (fun L984 eL984 => ?_)
  have h := h q981 nq981 Z982 eZ982 I983 eI983 L984 eL984
  have yZ982 : jext jZe Z982 := by rw [eZ982]; exact jext_nw nq981
  have kq981 : jk Z982 q981 11 := by rw [eZ982]; exact jk_nw
  have hx : jext jZe Z982 := jext_trans hx yZ982
  refine j_dup E dL_law_3 rfl ?_
  refine j_callI E [] [.ref q981] (c_X11_init (gL G) (gD G) (gY G) q981 Z982 I983 L984 _ kq981 h) (gwN W_1585) rfl (tw W_40) (tw W_1586) (tw W_1587) rfl fy_X11_init ⟨by decide, by decide⟩ rfl rfl (Nat.le_of_ble_eq_true rfl) ⟨by decide, by decide⟩ dL_law_4 (fun v985 Z986 I987 L988 q989 => ?_)
  obtain ⟨yZ986, rfl, h⟩ := q989
  have k990 := (yZ986 _ _ kq981).1
  have hx : jext jZe Z986 := jext_trans hx yZ986
  show jJ G 8 7 [(0, .ref b)] [.ref q981] Z986 I987 L988 _ _
  refine j_astore_n E 1 [(1, .ref q981), (0, .ref b)] dL_law_7 rfl (by decide) rfl ?_
  refine j_new E 12 rfl rfl (by decide) (iw iT_12) tyX12_ok (by decide) (tw W_1588) (tw W_1589) (tw W_695) (by decide) (by decide) dL_law_8 (fun q991 nq991 => ?_)
  refine j_nmZ (fun Z992 eZ992 => ?_)
  refine j_nmI (fun I993 eI993 => ?_)
  refine j_nmL (fun L994 eL994 => ?_)
  have h := h q991 nq991 Z992 eZ992 I993 eI993 L994 eL994
  have yZ992 : jext Z986 Z992 := by rw [eZ992]; exact jext_nw nq991
  have kq991 : jk Z992 q991 12 := by rw [eZ992]; exact jk_nw
  have k995 := (yZ992 _ _ k990).1
  have hx : jext jZe Z992 := jext_trans hx yZ992
  refine j_dup E dL_law_11 rfl ?_
  refine j_callI E [] [.ref q991] (c_X12_init (gL G) (gD G) (gY G) q991 Z992 I993 L994 _ kq991 h) (gwN W_1590) rfl (tw W_695) (tw W_1591) (tw W_1592) rfl fy_X12_init ⟨by decide, by decide⟩ rfl rfl (Nat.le_of_ble_eq_true rfl) ⟨by decide, by decide⟩ dL_law_12 (fun v996 Z997 I998 L999 q1000 => ?_)
  obtain ⟨yZ997, rfl, h⟩ := q1000
  have k1001 := (yZ997 _ _ k995).1
  have k1002 := (yZ997 _ _ kq991).1
  have hx : jext jZe Z997 := jext_trans hx yZ997
  show jJ G 8 15 [(1, .ref q981), (0, .ref b)] [.ref q991] Z997 I998 L999 _ _
  refine j_astore_n E 2 [(2, .ref q991), (1, .ref q981), (0, .ref b)] dL_law_15 rfl (by decide) rfl ?_
  refine j_iconst E (v := 1) dL_law_16 (by decide) ?_
  refine j_newaJ E 1 (by decide) (by decide) (by decide) (tw W_5) (by decide) (by decide) dL_law_17 (fun q1003 nq1003 => ?_)
  refine j_nmZ (fun Z1004 eZ1004 => ?_)
  refine j_nmI (fun I1005 eI1005 => ?_)
  refine j_nmL (fun L1006 eL1006 => ?_)
  have h := h q1003 nq1003 Z1004 eZ1004 I1005 eI1005 L1006 eL1006
  have yZ1004 : jext Z997 Z1004 := by rw [eZ1004]; exact jext_nw nq1003
  have kq1003 : jk Z1004 q1003 15 := by rw [eZ1004]; exact jk_nw
  have k1007 := (yZ1004 _ _ k1001).1
  have k1008 := (yZ1004 _ _ k1002).1
  have hx : jext jZe Z1004 := jext_trans hx yZ1004
  refine j_astore_n E 3 [(3, .ref q1003), (2, .ref q991), (1, .ref q981), (0, .ref b)] dL_law_19 rfl (by decide) rfl ?_
  refine j_iconst E (v := 0) dL_law_20 (by decide) ?_
  refine j_istore E 4 [(4, .int (0 : Int32)), (3, .ref q1003), (2, .ref q991), (1, .ref q981), (0, .ref b)] dL_law_21 (by decide) rfl ?_
  obtain ⟨hZ, B, m9, hm9, h⟩ := h
  refine j_sub [4, 3, 2, 1, 0] rfl ?_
  refine j_widen (k9 := 114 + (jcz Z1004 - jcz Z1004) + 0) (n9 := 516091 + (jsz Z1004 - jsz Z1004) + 0) (by show 114 ≤ _; omega) (by show 516091 ≤ _; omega) ?_
  exact m_L_law_L23 E hX hV hU hl0 m9 114 516091 q981 q991 q1003 (0 : Int32) Z1004 I1005 L1006 (by have := hm9.1; have := hm9.2.2.1; omega) (by have := hm9.1; have := hm9.2.2.2; omega) hZ jext_rfl jle_rfl hm9.2.1 k1007 k1008 kq1003 h
theorem jthw_in : ∀ w ∈ jthw, w ∈ vyL.filter vx_no := by decide +kernel
set_option maxRecDepth 100000 in
/-- what a throw stands on, at the law's entry -/
theorem law_V {p : Program} {s : State} {m : MethodId} {meth : Method} {c : Code} {b Ls : Nat} {xs : Nat → Int32} (C0 : lw_At p s m meth c b Ls xs) : jV (fun q => s.heap.size ≤ q) s s.heap := by
  obtain ⟨-, -, -, -, -, hts, -, -, -, hgv⟩ := C0
  have hs := flat_of_before _ hgv
  have hi : (Cond.initialized Bundle.tN).before #[Value.ref b] s = true := hts _ (by decide +kernel)
  refine ⟨fun w hw => ?_, ?_, vx_Zqof (hts _ (by decide +kernel)) hi (hs _ (by decide +kernel)) (fun a h => Nat.not_le.mpr h), vx_Zqof (hts _ (by decide +kernel)) hi (hs _ (by decide +kernel)) (fun a h => Nat.not_le.mpr h)⟩
  · have h1 := hts w (vy_in w (jthw_in w hw))
    have h2 := jthw_all w hw
    cases w with
    | declares x => exact va_Nw.of rfl h1
    | castable a b => exact va_Nw.of rfl h1
    | _ => cases h2
  · have st : ∀ (i : Nat) (tx : String), (Cond.exactly (.string "StairsInSteps" i) "java/lang/String") ∈ flatC (Jvm.Cond.and given_1 narrow_1) → Cond.stringRef "StairsInSteps" i tx ∈ lw_tbl → ∃ sa : Nat, vk_R "StairsInSteps" i tx sa s := fun i tx h1 h2 => by
      obtain ⟨a, -, -, -, ha, -⟩ := Cond.exactly_spec (hs _ h1)
      exact ⟨a, vk_R.of (hts _ h2) ha⟩
    have e : ∀ q ∈ jstr, (Cond.exactly (.string "StairsInSteps" q.1) "java/lang/String") ∈ flatC (Jvm.Cond.and given_1 narrow_1) ∧ Cond.stringRef "StairsInSteps" q.1 q.2 ∈ lw_tbl := by decide +kernel
    exact fun q hq => st q.1 q.2 (e q hq).1 (e q hq).2
set_option maxRecDepth 100000 in
/-- the String of LETTERS, at the law's entry -/
theorem law_U {p : Program} {s : State} {m : MethodId} {meth : Method} {c : Code} {b Ls : Nat} {xs : Nat → Int32} (C0 : lw_At p s m meth c b Ls xs) : ∃ sa sb : Nat, jU sa sb (fun q => s.heap.size ≤ q) s s.heap := by
  obtain ⟨-, -, -, -, -, hts, -, -, -, hgv⟩ := C0
  have hs := flat_of_before _ hgv
  have hA : ∀ a : Nat, a < s.heap.size → ¬ s.heap.size ≤ a := fun a h => Nat.not_le.mpr h
  have hel : ∀ j ∈ [0, 1, 2, 3, 4, 5, 6], (Cond.eq (.elem (.field (.string "StairsInSteps$Law" 91) "java/lang/String" "value" "[B") (.int (Int32.ofNat j))) (.int (jlet.getD j 0))) ∈ flatC (Jvm.Cond.and given_1 narrow_1) := by decide +kernel
  obtain ⟨adK, adV, h1, h2⟩ := vk_Sof (args := #[Value.ref b]) (s := s) (N := 1) (tm := fun _ => .string "StairsInSteps$Law" 91) (len := [7]) (byt := [jlet]) (A := fun q => s.heap.size ≤ q)
    (fun i hi => by obtain rfl : i = 0 := by omega
                    decide) (fun i hi => hs _ (by decide +kernel)) (fun i hi => hs _ (by decide +kernel)) (fun i hi => hs _ (by decide +kernel))
    (fun i hi => by obtain rfl : i = 0 := by omega
                    exact hs _ (by decide +kernel))
    (fun i hi j hj => by
      obtain rfl : i = 0 := by omega
      have hj : j < 7 := hj
      exact hs _ (hel j (by rcases (show j = 0 ∨ j = 1 ∨ j = 2 ∨ j = 3 ∨ j = 4 ∨ j = 5 ∨ j = 6 by omega) with rfl | rfl | rfl | rfl | rfl | rfl | rfl <;> decide)))
    (fun i j hi hj hne => by omega) hA
  obtain ⟨g1, g2, g3, g4⟩ := h1.1 0 (by omega)
  exact ⟨adK 0, adV 0, vk_R.of (hts _ (by decide +kernel)) (h2 0 (by omega)), g1, g2, g3, g4, va_Zof (hts _ (by decide +kernel)) (hts _ (by decide +kernel)) (va_eqi (hs _ (by decide +kernel))) hA⟩
/-- THE LAW out of f_L_law alone: no machine is left -/
theorem law_go {p : Program} {e : Env} {s : State} {m : MethodId} {below : List Frame} {meth : Method} {c : Code} (l : Launch) (hl0 : l.stackTraces = false) {b Ls : Nat} {xs : Nat → Int32} (C0 : lw_At p s m meth c b Ls xs) (h : f_L_law xs Ls) : W p l e room_1 s m #[Value.ref b] below meth c s.heap [] 0 0 (lw_Z below #[Value.ref b] s) (entryFrame m ([Value.ref b] : List Value).toArray 8) := by
  refine law_in l C0 (fun G eL eS eX eA E => ?_)
  obtain ⟨sa, sb, hU⟩ := law_U C0
  refine m_L_law (sa := sa) (sb := sb) E ?_ ?_ (by rw [eS, eA]; exact hU) (by rw [eL]; exact hl0) h
  · rw [eS, eA]
    exact ⟨C0.2.2.2.2.2.2.1, C0.2.2.2.2.2.2.2.1, Nat.not_le.mpr C0.2.2.2.2.2.2.2.1⟩
  · rw [eS, eA]
    exact law_V C0
