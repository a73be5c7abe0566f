/-! ===== the law's body ===== -/
theorem W_1209 : Cond.code yX11_sign cX11_sign 2 (some .int) ∈ jT := jT_mem (mt_2 (List.mem_of_getElem? (i := 155) rfl)) rfl
theorem W_1210 : Cond.methodLink RL 26 yX11_sign ∈ jT := jT_mem (mt_2 (List.mem_of_getElem? (i := 152) rfl)) rfl
theorem W_1211 : Cond.instanceMethod yX11_sign ∈ jT := jT_mem (mt_2 (List.mem_of_getElem? (i := 153) rfl)) rfl
theorem W_1212 : Cond.selects RX11 yX11_sign yX11_sign ∈ jT := jT_mem (mt_2 (List.mem_of_getElem? (i := 154) rfl)) rfl
theorem W_1213 : Cond.code yX12_sign cX12_sign 3 (some .int) ∈ jT := jT_mem (mt_8 (List.mem_of_getElem? (i := 3) rfl)) rfl
theorem W_1214 : Cond.methodLink RL 30 yX12_sign ∈ jT := jT_mem (mt_8 (List.mem_of_getElem? (i := 0) rfl)) rfl
theorem W_1215 : Cond.instanceMethod yX12_sign ∈ jT := jT_mem (mt_8 (List.mem_of_getElem? (i := 1) rfl)) rfl
theorem W_1216 : Cond.selects RX12 yX12_sign yX12_sign ∈ jT := jT_mem (mt_8 (List.mem_of_getElem? (i := 2) rfl)) rfl
theorem W_1217 : Cond.code yX11_end cX11_end 2 (some .boolean) ∈ jT := jT_mem (mt_2 (List.mem_of_getElem? (i := 163) rfl)) rfl
theorem W_1218 : Cond.methodLink RL 31 yX11_end ∈ jT := jT_mem (mt_2 (List.mem_of_getElem? (i := 160) rfl)) rfl
theorem W_1219 : Cond.instanceMethod yX11_end ∈ jT := jT_mem (mt_2 (List.mem_of_getElem? (i := 161) rfl)) rfl
theorem W_1220 : Cond.selects RX11 yX11_end yX11_end ∈ jT := jT_mem (mt_2 (List.mem_of_getElem? (i := 162) rfl)) rfl
theorem W_1221 : Cond.code yX12_end cX12_end 2 (some .boolean) ∈ jT := jT_mem (mt_8 (List.mem_of_getElem? (i := 7) rfl)) rfl
theorem W_1222 : Cond.methodLink RL 35 yX12_end ∈ jT := jT_mem (mt_8 (List.mem_of_getElem? (i := 4) rfl)) rfl
theorem W_1223 : Cond.instanceMethod yX12_end ∈ jT := jT_mem (mt_8 (List.mem_of_getElem? (i := 5) rfl)) rfl
theorem W_1224 : Cond.selects RX12 yX12_end yX12_end ∈ jT := jT_mem (mt_8 (List.mem_of_getElem? (i := 6) rfl)) rfl
theorem W_1225 : Cond.code yX11_stairs cX11_stairs 4 (some .int) ∈ jT := jT_mem (mt_2 (List.mem_of_getElem? (i := 171) rfl)) rfl
theorem W_1226 : Cond.methodLink RL 36 yX11_stairs ∈ jT := jT_mem (mt_2 (List.mem_of_getElem? (i := 168) rfl)) rfl
theorem W_1227 : Cond.instanceMethod yX11_stairs ∈ jT := jT_mem (mt_2 (List.mem_of_getElem? (i := 169) rfl)) rfl
theorem W_1228 : Cond.selects RX11 yX11_stairs yX11_stairs ∈ jT := jT_mem (mt_2 (List.mem_of_getElem? (i := 170) rfl)) rfl
theorem W_1229 : Cond.code yX12_stairs cX12_stairs 5 (some .int) ∈ jT := jT_mem (mt_8 (List.mem_of_getElem? (i := 14) rfl)) rfl
theorem W_1230 : Cond.methodLink RL 40 yX12_stairs ∈ jT := jT_mem (mt_8 (List.mem_of_getElem? (i := 11) rfl)) rfl
theorem W_1231 : Cond.instanceMethod yX12_stairs ∈ jT := jT_mem (mt_8 (List.mem_of_getElem? (i := 12) rfl)) rfl
theorem W_1232 : Cond.selects RX12 yX12_stairs yX12_stairs ∈ jT := jT_mem (mt_8 (List.mem_of_getElem? (i := 13) rfl)) rfl
theorem W_1233 : Cond.code yX11_law cX11_law 3 (some .int) ∈ jT := jT_mem (mt_3 (List.mem_of_getElem? (i := 24) rfl)) rfl
theorem W_1234 : Cond.methodLink RL 41 yX11_law ∈ jT := jT_mem (mt_3 (List.mem_of_getElem? (i := 21) rfl)) rfl
theorem W_1235 : Cond.instanceMethod yX11_law ∈ jT := jT_mem (mt_3 (List.mem_of_getElem? (i := 22) rfl)) rfl
theorem W_1236 : Cond.selects RX11 yX11_law yX11_law ∈ jT := jT_mem (mt_3 (List.mem_of_getElem? (i := 23) rfl)) rfl
theorem W_1237 : Cond.code yX12_law cX12_law 4 (some .int) ∈ jT := jT_mem (mt_8 (List.mem_of_getElem? (i := 50) rfl)) rfl
theorem W_1238 : Cond.methodLink RL 44 yX12_law ∈ jT := jT_mem (mt_8 (List.mem_of_getElem? (i := 47) rfl)) rfl
theorem W_1239 : Cond.instanceMethod yX12_law ∈ jT := jT_mem (mt_8 (List.mem_of_getElem? (i := 48) rfl)) rfl
theorem W_1240 : Cond.selects RX12 yX12_law yX12_law ∈ jT := jT_mem (mt_8 (List.mem_of_getElem? (i := 49) rfl)) rfl
theorem W_1241 : Cond.initialized RL ∈ jT := jT_mem (mt_1 (List.mem_of_getElem? (i := 0) rfl)) rfl
theorem W_1242 : Cond.methodLink RL 45 yL_step ∈ jT := jT_mem (mt_6 (List.mem_of_getElem? (i := 174) rfl)) rfl
theorem W_1243 : Cond.static yL_step ∈ jT := jT_mem (mt_6 (List.mem_of_getElem? (i := 175) rfl)) rfl
theorem W_1244 : Cond.codeWith yL_step cL_step 5 (some .int) [(0, 10, 13, 13)] ∈ jT := jT_mem (mt_6 (List.mem_of_getElem? (i := 176) rfl)) rfl
theorem W_1245 : Cond.code yX12_step cX12_step 3 (some .int) ∈ jT := jT_mem (mt_8 (List.mem_of_getElem? (i := 78) rfl)) rfl
theorem W_1246 : Cond.methodLink RL 50 yX12_step ∈ jT := jT_mem (mt_8 (List.mem_of_getElem? (i := 75) rfl)) rfl
theorem W_1247 : Cond.instanceMethod yX12_step ∈ jT := jT_mem (mt_8 (List.mem_of_getElem? (i := 76) rfl)) rfl
theorem W_1248 : Cond.selects RX12 yX12_step yX12_step ∈ jT := jT_mem (mt_8 (List.mem_of_getElem? (i := 77) rfl)) rfl
theorem W_1249 : Cond.code yX12_thrown cX12_thrown 1 (some .int) ∈ jT := jT_mem (mt_7 (List.mem_of_getElem? (i := 239) rfl)) rfl
theorem W_1250 : Cond.methodLink RL 51 yX12_thrown ∈ jT := jT_mem (mt_7 (List.mem_of_getElem? (i := 236) rfl)) rfl
theorem W_1251 : Cond.instanceMethod yX12_thrown ∈ jT := jT_mem (mt_7 (List.mem_of_getElem? (i := 237) rfl)) rfl
theorem W_1252 : Cond.selects RX12 yX12_thrown yX12_thrown ∈ jT := jT_mem (mt_7 (List.mem_of_getElem? (i := 238) rfl)) rfl
theorem W_1253 : Cond.code yX11_set cX11_set 5 (some .int) ∈ jT := jT_mem (mt_3 (List.mem_of_getElem? (i := 161) rfl)) rfl
theorem W_1254 : Cond.methodLink RL 54 yX11_set ∈ jT := jT_mem (mt_3 (List.mem_of_getElem? (i := 158) rfl)) rfl
theorem W_1255 : Cond.instanceMethod yX11_set ∈ jT := jT_mem (mt_3 (List.mem_of_getElem? (i := 159) rfl)) rfl
theorem W_1256 : Cond.selects RX11 yX11_set yX11_set ∈ jT := jT_mem (mt_3 (List.mem_of_getElem? (i := 160) rfl)) rfl
theorem W_1257 : Cond.code yX12_set cX12_set 5 (some .int) ∈ jT := jT_mem (mt_8 (List.mem_of_getElem? (i := 90) rfl)) rfl
theorem W_1258 : Cond.methodLink RL 58 yX12_set ∈ jT := jT_mem (mt_8 (List.mem_of_getElem? (i := 87) rfl)) rfl
theorem W_1259 : Cond.instanceMethod yX12_set ∈ jT := jT_mem (mt_8 (List.mem_of_getElem? (i := 88) rfl)) rfl
theorem W_1260 : Cond.selects RX12 yX12_set yX12_set ∈ jT := jT_mem (mt_8 (List.mem_of_getElem? (i := 89) rfl)) rfl
theorem W_1261 : Cond.code yX11_sheet cX11_sheet 8 (some .int) ∈ jT := jT_mem (mt_3 (List.mem_of_getElem? (i := 169) rfl)) rfl
theorem W_1262 : Cond.methodLink RL 59 yX11_sheet ∈ jT := jT_mem (mt_3 (List.mem_of_getElem? (i := 166) rfl)) rfl
theorem W_1263 : Cond.instanceMethod yX11_sheet ∈ jT := jT_mem (mt_3 (List.mem_of_getElem? (i := 167) rfl)) rfl
theorem W_1264 : Cond.selects RX11 yX11_sheet yX11_sheet ∈ jT := jT_mem (mt_3 (List.mem_of_getElem? (i := 168) rfl)) rfl
theorem W_1265 : Cond.code yX12_sheet cX12_sheet 9 (some .int) ∈ jT := jT_mem (mt_8 (List.mem_of_getElem? (i := 94) rfl)) rfl
theorem W_1266 : Cond.methodLink RL 63 yX12_sheet ∈ jT := jT_mem (mt_8 (List.mem_of_getElem? (i := 91) rfl)) rfl
theorem W_1267 : Cond.instanceMethod yX12_sheet ∈ jT := jT_mem (mt_8 (List.mem_of_getElem? (i := 92) rfl)) rfl
theorem W_1268 : Cond.selects RX12 yX12_sheet yX12_sheet ∈ jT := jT_mem (mt_8 (List.mem_of_getElem? (i := 93) rfl)) rfl
theorem W_1269 : Cond.code yX12_feud cX12_feud 4 (some .boolean) ∈ jT := jT_mem (mt_8 (List.mem_of_getElem? (i := 100) rfl)) rfl
theorem W_1270 : Cond.methodLink RL 68 yX12_feud ∈ jT := jT_mem (mt_8 (List.mem_of_getElem? (i := 97) rfl)) rfl
theorem W_1271 : Cond.instanceMethod yX12_feud ∈ jT := jT_mem (mt_8 (List.mem_of_getElem? (i := 98) rfl)) rfl
theorem W_1272 : Cond.selects RX12 yX12_feud yX12_feud ∈ jT := jT_mem (mt_8 (List.mem_of_getElem? (i := 99) rfl)) rfl
theorem W_1273 : Cond.code yX11_feud cX11_feud 4 (some .boolean) ∈ jT := jT_mem (mt_3 (List.mem_of_getElem? (i := 182) rfl)) rfl
theorem W_1274 : Cond.methodLink RL 64 yX11_feud ∈ jT := jT_mem (mt_3 (List.mem_of_getElem? (i := 179) rfl)) rfl
theorem W_1275 : Cond.instanceMethod yX11_feud ∈ jT := jT_mem (mt_3 (List.mem_of_getElem? (i := 180) rfl)) rfl
theorem W_1276 : Cond.selects RX11 yX11_feud yX11_feud ∈ jT := jT_mem (mt_3 (List.mem_of_getElem? (i := 181) rfl)) rfl
theorem W_1277 : Cond.code yX11_wears cX11_wears 4 (some .int) ∈ jT := jT_mem (mt_3 (List.mem_of_getElem? (i := 192) rfl)) rfl
theorem W_1278 : Cond.methodLink RL 69 yX11_wears ∈ jT := jT_mem (mt_3 (List.mem_of_getElem? (i := 189) rfl)) rfl
theorem W_1279 : Cond.instanceMethod yX11_wears ∈ jT := jT_mem (mt_3 (List.mem_of_getElem? (i := 190) rfl)) rfl
theorem W_1280 : Cond.selects RX11 yX11_wears yX11_wears ∈ jT := jT_mem (mt_3 (List.mem_of_getElem? (i := 191) rfl)) rfl
theorem W_1281 : Cond.code yX12_wears cX12_wears 4 (some .int) ∈ jT := jT_mem (mt_8 (List.mem_of_getElem? (i := 111) rfl)) rfl
theorem W_1282 : Cond.methodLink RL 72 yX12_wears ∈ jT := jT_mem (mt_8 (List.mem_of_getElem? (i := 108) rfl)) rfl
theorem W_1283 : Cond.instanceMethod yX12_wears ∈ jT := jT_mem (mt_8 (List.mem_of_getElem? (i := 109) rfl)) rfl
theorem W_1284 : Cond.selects RX12 yX12_wears yX12_wears ∈ jT := jT_mem (mt_8 (List.mem_of_getElem? (i := 110) rfl)) rfl
theorem W_1285 : Cond.code yX11_pilgrim cX11_pilgrim 6 (some .int) ∈ jT := jT_mem (mt_3 (List.mem_of_getElem? (i := 196) rfl)) rfl
theorem W_1286 : Cond.methodLink RL 73 yX11_pilgrim ∈ jT := jT_mem (mt_3 (List.mem_of_getElem? (i := 193) rfl)) rfl
theorem W_1287 : Cond.instanceMethod yX11_pilgrim ∈ jT := jT_mem (mt_3 (List.mem_of_getElem? (i := 194) rfl)) rfl
theorem W_1288 : Cond.selects RX11 yX11_pilgrim yX11_pilgrim ∈ jT := jT_mem (mt_3 (List.mem_of_getElem? (i := 195) rfl)) rfl
theorem W_1289 : Cond.code yX12_pilgrim cX12_pilgrim 5 (some .int) ∈ jT := jT_mem (mt_8 (List.mem_of_getElem? (i := 115) rfl)) rfl
theorem W_1290 : Cond.methodLink RL 76 yX12_pilgrim ∈ jT := jT_mem (mt_8 (List.mem_of_getElem? (i := 112) rfl)) rfl
theorem W_1291 : Cond.instanceMethod yX12_pilgrim ∈ jT := jT_mem (mt_8 (List.mem_of_getElem? (i := 113) rfl)) rfl
theorem W_1292 : Cond.selects RX12 yX12_pilgrim yX12_pilgrim ∈ jT := jT_mem (mt_8 (List.mem_of_getElem? (i := 114) rfl)) rfl
theorem W_1293 : Cond.code yX11_vow cX11_vow 5 (some .int) ∈ jT := jT_mem (mt_4 (List.mem_of_getElem? (i := 69) rfl)) rfl
theorem W_1294 : Cond.methodLink RL 77 yX11_vow ∈ jT := jT_mem (mt_4 (List.mem_of_getElem? (i := 66) rfl)) rfl
theorem W_1295 : Cond.instanceMethod yX11_vow ∈ jT := jT_mem (mt_4 (List.mem_of_getElem? (i := 67) rfl)) rfl
theorem W_1296 : Cond.selects RX11 yX11_vow yX11_vow ∈ jT := jT_mem (mt_4 (List.mem_of_getElem? (i := 68) rfl)) rfl
theorem W_1297 : Cond.code yX12_vow cX12_vow 4 (some .int) ∈ jT := jT_mem (mt_8 (List.mem_of_getElem? (i := 119) rfl)) rfl
theorem W_1298 : Cond.methodLink RL 80 yX12_vow ∈ jT := jT_mem (mt_8 (List.mem_of_getElem? (i := 116) rfl)) rfl
theorem W_1299 : Cond.instanceMethod yX12_vow ∈ jT := jT_mem (mt_8 (List.mem_of_getElem? (i := 117) rfl)) rfl
theorem W_1300 : Cond.selects RX12 yX12_vow yX12_vow ∈ jT := jT_mem (mt_8 (List.mem_of_getElem? (i := 118) rfl)) rfl
theorem W_1301 : Cond.methodLink RL 81 yL_of ∈ jT := jT_mem (mt_7 (List.mem_of_getElem? (i := 8) rfl)) rfl
theorem W_1302 : Cond.static yL_of ∈ jT := jT_mem (mt_7 (List.mem_of_getElem? (i := 9) rfl)) rfl
theorem W_1303 : Cond.codeWith yL_of cL_of 5 (some .int) [(0, 10, 13, 13)] ∈ jT := jT_mem (mt_7 (List.mem_of_getElem? (i := 10) rfl)) rfl
theorem W_1304 : Cond.code yX12_of cX12_of 3 (some .int) ∈ jT := jT_mem (mt_8 (List.mem_of_getElem? (i := 127) rfl)) rfl
theorem W_1305 : Cond.methodLink RL 83 yX12_of ∈ jT := jT_mem (mt_8 (List.mem_of_getElem? (i := 124) rfl)) rfl
theorem W_1306 : Cond.instanceMethod yX12_of ∈ jT := jT_mem (mt_8 (List.mem_of_getElem? (i := 125) rfl)) rfl
theorem W_1307 : Cond.selects RX12 yX12_of yX12_of ∈ jT := jT_mem (mt_8 (List.mem_of_getElem? (i := 126) rfl)) rfl
theorem W_1308 : Cond.code yX11_costs cX11_costs 4 (some .int) ∈ jT := jT_mem (mt_4 (List.mem_of_getElem? (i := 73) rfl)) rfl
theorem W_1309 : Cond.methodLink RL 84 yX11_costs ∈ jT := jT_mem (mt_4 (List.mem_of_getElem? (i := 70) rfl)) rfl
theorem W_1310 : Cond.instanceMethod yX11_costs ∈ jT := jT_mem (mt_4 (List.mem_of_getElem? (i := 71) rfl)) rfl
theorem W_1311 : Cond.selects RX11 yX11_costs yX11_costs ∈ jT := jT_mem (mt_4 (List.mem_of_getElem? (i := 72) rfl)) rfl
theorem W_1312 : Cond.code yX12_costs cX12_costs 3 (some .int) ∈ jT := jT_mem (mt_8 (List.mem_of_getElem? (i := 131) rfl)) rfl
theorem W_1313 : Cond.methodLink RL 87 yX12_costs ∈ jT := jT_mem (mt_8 (List.mem_of_getElem? (i := 128) rfl)) rfl
theorem W_1314 : Cond.instanceMethod yX12_costs ∈ jT := jT_mem (mt_8 (List.mem_of_getElem? (i := 129) rfl)) rfl
theorem W_1315 : Cond.selects RX12 yX12_costs yX12_costs ∈ jT := jT_mem (mt_8 (List.mem_of_getElem? (i := 130) rfl)) rfl
theorem W_1316 : Cond.code yX11_tread cX11_tread 6 (some .int) ∈ jT := jT_mem (mt_4 (List.mem_of_getElem? (i := 134) rfl)) rfl
theorem W_1317 : Cond.methodLink RL 88 yX11_tread ∈ jT := jT_mem (mt_4 (List.mem_of_getElem? (i := 131) rfl)) rfl
theorem W_1318 : Cond.instanceMethod yX11_tread ∈ jT := jT_mem (mt_4 (List.mem_of_getElem? (i := 132) rfl)) rfl
theorem W_1319 : Cond.selects RX11 yX11_tread yX11_tread ∈ jT := jT_mem (mt_4 (List.mem_of_getElem? (i := 133) rfl)) rfl
theorem W_1320 : Cond.code yX12_tread cX12_tread 8 (some .int) ∈ jT := jT_mem (mt_8 (List.mem_of_getElem? (i := 155) rfl)) rfl
theorem W_1321 : Cond.methodLink RL 91 yX12_tread ∈ jT := jT_mem (mt_8 (List.mem_of_getElem? (i := 152) rfl)) rfl
theorem W_1322 : Cond.instanceMethod yX12_tread ∈ jT := jT_mem (mt_8 (List.mem_of_getElem? (i := 153) rfl)) rfl
theorem W_1323 : Cond.selects RX12 yX12_tread yX12_tread ∈ jT := jT_mem (mt_8 (List.mem_of_getElem? (i := 154) rfl)) rfl
theorem W_1324 : Cond.code yX11_rests cX11_rests 5 (some .int) ∈ jT := jT_mem (mt_4 (List.mem_of_getElem? (i := 164) rfl)) rfl
theorem W_1325 : Cond.methodLink RL 92 yX11_rests ∈ jT := jT_mem (mt_4 (List.mem_of_getElem? (i := 161) rfl)) rfl
theorem W_1326 : Cond.instanceMethod yX11_rests ∈ jT := jT_mem (mt_4 (List.mem_of_getElem? (i := 162) rfl)) rfl
theorem W_1327 : Cond.selects RX11 yX11_rests yX11_rests ∈ jT := jT_mem (mt_4 (List.mem_of_getElem? (i := 163) rfl)) rfl
theorem W_1328 : Cond.code yX12_rests cX12_rests 5 (some .int) ∈ jT := jT_mem (mt_8 (List.mem_of_getElem? (i := 172) rfl)) rfl
theorem W_1329 : Cond.methodLink RL 95 yX12_rests ∈ jT := jT_mem (mt_8 (List.mem_of_getElem? (i := 169) rfl)) rfl
theorem W_1330 : Cond.instanceMethod yX12_rests ∈ jT := jT_mem (mt_8 (List.mem_of_getElem? (i := 170) rfl)) rfl
theorem W_1331 : Cond.selects RX12 yX12_rests yX12_rests ∈ jT := jT_mem (mt_8 (List.mem_of_getElem? (i := 171) rfl)) rfl
theorem W_1332 : Cond.code yX11_returns cX11_returns 4 (some .int) ∈ jT := jT_mem (mt_4 (List.mem_of_getElem? (i := 168) rfl)) rfl
theorem W_1333 : Cond.methodLink RL 96 yX11_returns ∈ jT := jT_mem (mt_4 (List.mem_of_getElem? (i := 165) rfl)) rfl
theorem W_1334 : Cond.instanceMethod yX11_returns ∈ jT := jT_mem (mt_4 (List.mem_of_getElem? (i := 166) rfl)) rfl
theorem W_1335 : Cond.selects RX11 yX11_returns yX11_returns ∈ jT := jT_mem (mt_4 (List.mem_of_getElem? (i := 167) rfl)) rfl
theorem W_1336 : Cond.code yX12_returns cX12_returns 3 (some .int) ∈ jT := jT_mem (mt_8 (List.mem_of_getElem? (i := 176) rfl)) rfl
theorem W_1337 : Cond.methodLink RL 99 yX12_returns ∈ jT := jT_mem (mt_8 (List.mem_of_getElem? (i := 173) rfl)) rfl
theorem W_1338 : Cond.instanceMethod yX12_returns ∈ jT := jT_mem (mt_8 (List.mem_of_getElem? (i := 174) rfl)) rfl
theorem W_1339 : Cond.selects RX12 yX12_returns yX12_returns ∈ jT := jT_mem (mt_8 (List.mem_of_getElem? (i := 175) rfl)) rfl
theorem W_1340 : Cond.code yX11_earned cX11_earned 2 (some .int) ∈ jT := jT_mem (mt_4 (List.mem_of_getElem? (i := 172) rfl)) rfl
theorem W_1341 : Cond.methodLink RL 100 yX11_earned ∈ jT := jT_mem (mt_4 (List.mem_of_getElem? (i := 169) rfl)) rfl
theorem W_1342 : Cond.instanceMethod yX11_earned ∈ jT := jT_mem (mt_4 (List.mem_of_getElem? (i := 170) rfl)) rfl
theorem W_1343 : Cond.selects RX11 yX11_earned yX11_earned ∈ jT := jT_mem (mt_4 (List.mem_of_getElem? (i := 171) rfl)) rfl
theorem W_1344 : Cond.code yX12_earned cX12_earned 4 (some .int) ∈ jT := jT_mem (mt_8 (List.mem_of_getElem? (i := 180) rfl)) rfl
theorem W_1345 : Cond.methodLink RL 103 yX12_earned ∈ jT := jT_mem (mt_8 (List.mem_of_getElem? (i := 177) rfl)) rfl
theorem W_1346 : Cond.instanceMethod yX12_earned ∈ jT := jT_mem (mt_8 (List.mem_of_getElem? (i := 178) rfl)) rfl
theorem W_1347 : Cond.selects RX12 yX12_earned yX12_earned ∈ jT := jT_mem (mt_8 (List.mem_of_getElem? (i := 179) rfl)) rfl
theorem W_1348 : Cond.code yX11_climb cX11_climb 6 (some .int) ∈ jT := jT_mem (mt_4 (List.mem_of_getElem? (i := 180) rfl)) rfl
theorem W_1349 : Cond.methodLink RL 104 yX11_climb ∈ jT := jT_mem (mt_4 (List.mem_of_getElem? (i := 177) rfl)) rfl
theorem W_1350 : Cond.instanceMethod yX11_climb ∈ jT := jT_mem (mt_4 (List.mem_of_getElem? (i := 178) rfl)) rfl
theorem W_1351 : Cond.selects RX11 yX11_climb yX11_climb ∈ jT := jT_mem (mt_4 (List.mem_of_getElem? (i := 179) rfl)) rfl
theorem W_1352 : Cond.code yX12_climb cX12_climb 3 (some .int) ∈ jT := jT_mem (mt_8 (List.mem_of_getElem? (i := 184) rfl)) rfl
theorem W_1353 : Cond.methodLink RL 107 yX12_climb ∈ jT := jT_mem (mt_8 (List.mem_of_getElem? (i := 181) rfl)) rfl
theorem W_1354 : Cond.instanceMethod yX12_climb ∈ jT := jT_mem (mt_8 (List.mem_of_getElem? (i := 182) rfl)) rfl
theorem W_1355 : Cond.selects RX12 yX12_climb yX12_climb ∈ jT := jT_mem (mt_8 (List.mem_of_getElem? (i := 183) rfl)) rfl
theorem W_1356 : Cond.code yX11_knees cX11_knees 5 (some .int) ∈ jT := jT_mem (mt_5 (List.mem_of_getElem? (i := 57) rfl)) rfl
theorem W_1357 : Cond.methodLink RL 108 yX11_knees ∈ jT := jT_mem (mt_5 (List.mem_of_getElem? (i := 54) rfl)) rfl
theorem W_1358 : Cond.instanceMethod yX11_knees ∈ jT := jT_mem (mt_5 (List.mem_of_getElem? (i := 55) rfl)) rfl
theorem W_1359 : Cond.selects RX11 yX11_knees yX11_knees ∈ jT := jT_mem (mt_5 (List.mem_of_getElem? (i := 56) rfl)) rfl
theorem W_1360 : Cond.code yX12_knees cX12_knees 3 (some .int) ∈ jT := jT_mem (mt_8 (List.mem_of_getElem? (i := 205) rfl)) rfl
theorem W_1361 : Cond.methodLink RL 111 yX12_knees ∈ jT := jT_mem (mt_8 (List.mem_of_getElem? (i := 202) rfl)) rfl
theorem W_1362 : Cond.instanceMethod yX12_knees ∈ jT := jT_mem (mt_8 (List.mem_of_getElem? (i := 203) rfl)) rfl
theorem W_1363 : Cond.selects RX12 yX12_knees yX12_knees ∈ jT := jT_mem (mt_8 (List.mem_of_getElem? (i := 204) rfl)) rfl
theorem W_1364 : Cond.code yX11_ways cX11_ways 6 (some .long) ∈ jT := jT_mem (mt_5 (List.mem_of_getElem? (i := 72) rfl)) rfl
theorem W_1365 : Cond.methodLink RL 112 yX11_ways ∈ jT := jT_mem (mt_5 (List.mem_of_getElem? (i := 69) rfl)) rfl
theorem W_1366 : Cond.instanceMethod yX11_ways ∈ jT := jT_mem (mt_5 (List.mem_of_getElem? (i := 70) rfl)) rfl
theorem W_1367 : Cond.selects RX11 yX11_ways yX11_ways ∈ jT := jT_mem (mt_5 (List.mem_of_getElem? (i := 71) rfl)) rfl
theorem W_1368 : Cond.code yX12_ways cX12_ways 4 (some .long) ∈ jT := jT_mem (mt_8 (List.mem_of_getElem? (i := 209) rfl)) rfl
theorem W_1369 : Cond.methodLink RL 116 yX12_ways ∈ jT := jT_mem (mt_8 (List.mem_of_getElem? (i := 206) rfl)) rfl
theorem W_1370 : Cond.instanceMethod yX12_ways ∈ jT := jT_mem (mt_8 (List.mem_of_getElem? (i := 207) rfl)) rfl
theorem W_1371 : Cond.selects RX12 yX12_ways yX12_ways ∈ jT := jT_mem (mt_8 (List.mem_of_getElem? (i := 208) rfl)) rfl
theorem W_1372 : Cond.code yX11_trod cX11_trod 7 (some .int) ∈ jT := jT_mem (mt_5 (List.mem_of_getElem? (i := 112) rfl)) rfl
theorem W_1373 : Cond.methodLink RL 117 yX11_trod ∈ jT := jT_mem (mt_5 (List.mem_of_getElem? (i := 109) rfl)) rfl
theorem W_1374 : Cond.instanceMethod yX11_trod ∈ jT := jT_mem (mt_5 (List.mem_of_getElem? (i := 110) rfl)) rfl
theorem W_1375 : Cond.selects RX11 yX11_trod yX11_trod ∈ jT := jT_mem (mt_5 (List.mem_of_getElem? (i := 111) rfl)) rfl
theorem W_1376 : Cond.code yX12_trod cX12_trod 6 (some .int) ∈ jT := jT_mem (mt_8 (List.mem_of_getElem? (i := 220) rfl)) rfl
theorem W_1377 : Cond.methodLink RL 120 yX12_trod ∈ jT := jT_mem (mt_8 (List.mem_of_getElem? (i := 217) rfl)) rfl
theorem W_1378 : Cond.instanceMethod yX12_trod ∈ jT := jT_mem (mt_8 (List.mem_of_getElem? (i := 218) rfl)) rfl
theorem W_1379 : Cond.selects RX12 yX12_trod yX12_trod ∈ jT := jT_mem (mt_8 (List.mem_of_getElem? (i := 219) rfl)) rfl
theorem W_1380 : Cond.code yX11_who cX11_who 6 (some .int) ∈ jT := jT_mem (mt_5 (List.mem_of_getElem? (i := 120) rfl)) rfl
theorem W_1381 : Cond.methodLink RL 121 yX11_who ∈ jT := jT_mem (mt_5 (List.mem_of_getElem? (i := 117) rfl)) rfl
theorem W_1382 : Cond.instanceMethod yX11_who ∈ jT := jT_mem (mt_5 (List.mem_of_getElem? (i := 118) rfl)) rfl
theorem W_1383 : Cond.selects RX11 yX11_who yX11_who ∈ jT := jT_mem (mt_5 (List.mem_of_getElem? (i := 119) rfl)) rfl
theorem W_1384 : Cond.code yX12_who cX12_who 5 (some .int) ∈ jT := jT_mem (mt_8 (List.mem_of_getElem? (i := 232) rfl)) rfl
theorem W_1385 : Cond.methodLink RL 124 yX12_who ∈ jT := jT_mem (mt_8 (List.mem_of_getElem? (i := 229) rfl)) rfl
theorem W_1386 : Cond.instanceMethod yX12_who ∈ jT := jT_mem (mt_8 (List.mem_of_getElem? (i := 230) rfl)) rfl
theorem W_1387 : Cond.selects RX12 yX12_who yX12_who ∈ jT := jT_mem (mt_8 (List.mem_of_getElem? (i := 231) rfl)) rfl
theorem W_1388 : Cond.code yX11_next cX11_next 6 (some .int) ∈ jT := jT_mem (mt_5 (List.mem_of_getElem? (i := 124) rfl)) rfl
theorem W_1389 : Cond.methodLink RL 125 yX11_next ∈ jT := jT_mem (mt_5 (List.mem_of_getElem? (i := 121) rfl)) rfl
theorem W_1390 : Cond.instanceMethod yX11_next ∈ jT := jT_mem (mt_5 (List.mem_of_getElem? (i := 122) rfl)) rfl
theorem W_1391 : Cond.selects RX11 yX11_next yX11_next ∈ jT := jT_mem (mt_5 (List.mem_of_getElem? (i := 123) rfl)) rfl
theorem W_1392 : Cond.code yX12_next cX12_next 4 (some .int) ∈ jT := jT_mem (mt_8 (List.mem_of_getElem? (i := 236) rfl)) rfl
theorem W_1393 : Cond.methodLink RL 128 yX12_next ∈ jT := jT_mem (mt_8 (List.mem_of_getElem? (i := 233) rfl)) rfl
theorem W_1394 : Cond.instanceMethod yX12_next ∈ jT := jT_mem (mt_8 (List.mem_of_getElem? (i := 234) rfl)) rfl
theorem W_1395 : Cond.selects RX12 yX12_next yX12_next ∈ jT := jT_mem (mt_8 (List.mem_of_getElem? (i := 235) rfl)) rfl
theorem W_1396 : Cond.code yX11_bears cX11_bears 6 (some .int) ∈ jT := jT_mem (mt_5 (List.mem_of_getElem? (i := 137) rfl)) rfl
theorem W_1397 : Cond.methodLink RL 129 yX11_bears ∈ jT := jT_mem (mt_5 (List.mem_of_getElem? (i := 134) rfl)) rfl
theorem W_1398 : Cond.instanceMethod yX11_bears ∈ jT := jT_mem (mt_5 (List.mem_of_getElem? (i := 135) rfl)) rfl
theorem W_1399 : Cond.selects RX11 yX11_bears yX11_bears ∈ jT := jT_mem (mt_5 (List.mem_of_getElem? (i := 136) rfl)) rfl
theorem W_1400 : Cond.code yX12_bears cX12_bears 5 (some .int) ∈ jT := jT_mem (mt_9 (List.mem_of_getElem? (i := 4) rfl)) rfl
theorem W_1401 : Cond.methodLink RL 132 yX12_bears ∈ jT := jT_mem (mt_9 (List.mem_of_getElem? (i := 1) rfl)) rfl
theorem W_1402 : Cond.instanceMethod yX12_bears ∈ jT := jT_mem (mt_9 (List.mem_of_getElem? (i := 2) rfl)) rfl
theorem W_1403 : Cond.selects RX12 yX12_bears yX12_bears ∈ jT := jT_mem (mt_9 (List.mem_of_getElem? (i := 3) rfl)) rfl
theorem W_1404 : Cond.code yX11_breaks cX11_breaks 8 (some .int) ∈ jT := jT_mem (mt_5 (List.mem_of_getElem? (i := 141) rfl)) rfl
theorem W_1405 : Cond.methodLink RL 133 yX11_breaks ∈ jT := jT_mem (mt_5 (List.mem_of_getElem? (i := 138) rfl)) rfl
theorem W_1406 : Cond.instanceMethod yX11_breaks ∈ jT := jT_mem (mt_5 (List.mem_of_getElem? (i := 139) rfl)) rfl
theorem W_1407 : Cond.selects RX11 yX11_breaks yX11_breaks ∈ jT := jT_mem (mt_5 (List.mem_of_getElem? (i := 140) rfl)) rfl
theorem W_1408 : Cond.code yX12_breaks cX12_breaks 7 (some .int) ∈ jT := jT_mem (mt_9 (List.mem_of_getElem? (i := 8) rfl)) rfl
theorem W_1409 : Cond.methodLink RL 136 yX12_breaks ∈ jT := jT_mem (mt_9 (List.mem_of_getElem? (i := 5) rfl)) rfl
theorem W_1410 : Cond.instanceMethod yX12_breaks ∈ jT := jT_mem (mt_9 (List.mem_of_getElem? (i := 6) rfl)) rfl
theorem W_1411 : Cond.selects RX12 yX12_breaks yX12_breaks ∈ jT := jT_mem (mt_9 (List.mem_of_getElem? (i := 7) rfl)) rfl
theorem W_1412 : Cond.code yX11_all cX11_all 1 (some .int) ∈ jT := jT_mem (mt_5 (List.mem_of_getElem? (i := 145) rfl)) rfl
theorem W_1413 : Cond.methodLink RL 137 yX11_all ∈ jT := jT_mem (mt_5 (List.mem_of_getElem? (i := 142) rfl)) rfl
theorem W_1414 : Cond.instanceMethod yX11_all ∈ jT := jT_mem (mt_5 (List.mem_of_getElem? (i := 143) rfl)) rfl
theorem W_1415 : Cond.selects RX11 yX11_all yX11_all ∈ jT := jT_mem (mt_5 (List.mem_of_getElem? (i := 144) rfl)) rfl
theorem W_1416 : Cond.code yX12_all cX12_all 1 (some .int) ∈ jT := jT_mem (mt_9 (List.mem_of_getElem? (i := 12) rfl)) rfl
theorem W_1417 : Cond.methodLink RL 140 yX12_all ∈ jT := jT_mem (mt_9 (List.mem_of_getElem? (i := 9) rfl)) rfl
theorem W_1418 : Cond.instanceMethod yX12_all ∈ jT := jT_mem (mt_9 (List.mem_of_getElem? (i := 10) rfl)) rfl
theorem W_1419 : Cond.selects RX12 yX12_all yX12_all ∈ jT := jT_mem (mt_9 (List.mem_of_getElem? (i := 11) rfl)) rfl
theorem W_1420 : Cond.code yX11_whole cX11_whole 3 (some .int) ∈ jT := jT_mem (mt_5 (List.mem_of_getElem? (i := 153) rfl)) rfl
theorem W_1421 : Cond.methodLink RL 141 yX11_whole ∈ jT := jT_mem (mt_5 (List.mem_of_getElem? (i := 150) rfl)) rfl
theorem W_1422 : Cond.instanceMethod yX11_whole ∈ jT := jT_mem (mt_5 (List.mem_of_getElem? (i := 151) rfl)) rfl
theorem W_1423 : Cond.selects RX11 yX11_whole yX11_whole ∈ jT := jT_mem (mt_5 (List.mem_of_getElem? (i := 152) rfl)) rfl
theorem W_1424 : Cond.code yX12_whole cX12_whole 6 (some .int) ∈ jT := jT_mem (mt_9 (List.mem_of_getElem? (i := 20) rfl)) rfl
theorem W_1425 : Cond.methodLink RL 144 yX12_whole ∈ jT := jT_mem (mt_9 (List.mem_of_getElem? (i := 17) rfl)) rfl
theorem W_1426 : Cond.instanceMethod yX12_whole ∈ jT := jT_mem (mt_9 (List.mem_of_getElem? (i := 18) rfl)) rfl
theorem W_1427 : Cond.selects RX12 yX12_whole yX12_whole ∈ jT := jT_mem (mt_9 (List.mem_of_getElem? (i := 19) rfl)) rfl
theorem W_1428 : Cond.code yX11_mends cX11_mends 3 (some .int) ∈ jT := jT_mem (mt_5 (List.mem_of_getElem? (i := 161) rfl)) rfl
theorem W_1429 : Cond.methodLink RL 145 yX11_mends ∈ jT := jT_mem (mt_5 (List.mem_of_getElem? (i := 158) rfl)) rfl
theorem W_1430 : Cond.instanceMethod yX11_mends ∈ jT := jT_mem (mt_5 (List.mem_of_getElem? (i := 159) rfl)) rfl
theorem W_1431 : Cond.selects RX11 yX11_mends yX11_mends ∈ jT := jT_mem (mt_5 (List.mem_of_getElem? (i := 160) rfl)) rfl
theorem W_1432 : Cond.code yX12_mends cX12_mends 3 (some .int) ∈ jT := jT_mem (mt_9 (List.mem_of_getElem? (i := 32) rfl)) rfl
theorem W_1433 : Cond.methodLink RL 148 yX12_mends ∈ jT := jT_mem (mt_9 (List.mem_of_getElem? (i := 29) rfl)) rfl
theorem W_1434 : Cond.instanceMethod yX12_mends ∈ jT := jT_mem (mt_9 (List.mem_of_getElem? (i := 30) rfl)) rfl
theorem W_1435 : Cond.selects RX12 yX12_mends yX12_mends ∈ jT := jT_mem (mt_9 (List.mem_of_getElem? (i := 31) rfl)) rfl
theorem W_1436 : Cond.code yX11_shut cX11_shut 2 (some .int) ∈ jT := jT_mem (mt_5 (List.mem_of_getElem? (i := 165) rfl)) rfl
theorem W_1437 : Cond.methodLink RL 149 yX11_shut ∈ jT := jT_mem (mt_5 (List.mem_of_getElem? (i := 162) rfl)) rfl
theorem W_1438 : Cond.instanceMethod yX11_shut ∈ jT := jT_mem (mt_5 (List.mem_of_getElem? (i := 163) rfl)) rfl
theorem W_1439 : Cond.selects RX11 yX11_shut yX11_shut ∈ jT := jT_mem (mt_5 (List.mem_of_getElem? (i := 164) rfl)) rfl
theorem W_1440 : Cond.code yX12_shut cX12_shut 5 (some .int) ∈ jT := jT_mem (mt_9 (List.mem_of_getElem? (i := 28) rfl)) rfl
theorem W_1441 : Cond.methodLink RL 152 yX12_shut ∈ jT := jT_mem (mt_9 (List.mem_of_getElem? (i := 25) rfl)) rfl
theorem W_1442 : Cond.instanceMethod yX12_shut ∈ jT := jT_mem (mt_9 (List.mem_of_getElem? (i := 26) rfl)) rfl
theorem W_1443 : Cond.selects RX12 yX12_shut yX12_shut ∈ jT := jT_mem (mt_9 (List.mem_of_getElem? (i := 27) rfl)) rfl
theorem W_1444 : Cond.code yX11_toll cX11_toll 4 (some .int) ∈ jT := jT_mem (mt_5 (List.mem_of_getElem? (i := 169) rfl)) rfl
theorem W_1445 : Cond.methodLink RL 153 yX11_toll ∈ jT := jT_mem (mt_5 (List.mem_of_getElem? (i := 166) rfl)) rfl
theorem W_1446 : Cond.instanceMethod yX11_toll ∈ jT := jT_mem (mt_5 (List.mem_of_getElem? (i := 167) rfl)) rfl
theorem W_1447 : Cond.selects RX11 yX11_toll yX11_toll ∈ jT := jT_mem (mt_5 (List.mem_of_getElem? (i := 168) rfl)) rfl
theorem W_1448 : Cond.code yX12_toll cX12_toll 5 (some .int) ∈ jT := jT_mem (mt_9 (List.mem_of_getElem? (i := 36) rfl)) rfl
theorem W_1449 : Cond.methodLink RL 156 yX12_toll ∈ jT := jT_mem (mt_9 (List.mem_of_getElem? (i := 33) rfl)) rfl
theorem W_1450 : Cond.instanceMethod yX12_toll ∈ jT := jT_mem (mt_9 (List.mem_of_getElem? (i := 34) rfl)) rfl
theorem W_1451 : Cond.selects RX12 yX12_toll yX12_toll ∈ jT := jT_mem (mt_9 (List.mem_of_getElem? (i := 35) rfl)) rfl
theorem W_1452 : Cond.code yX11_peace cX11_peace 6 (some .int) ∈ jT := jT_mem (mt_5 (List.mem_of_getElem? (i := 226) rfl)) rfl
theorem W_1453 : Cond.methodLink RL 157 yX11_peace ∈ jT := jT_mem (mt_5 (List.mem_of_getElem? (i := 223) rfl)) rfl
theorem W_1454 : Cond.instanceMethod yX11_peace ∈ jT := jT_mem (mt_5 (List.mem_of_getElem? (i := 224) rfl)) rfl
theorem W_1455 : Cond.selects RX11 yX11_peace yX11_peace ∈ jT := jT_mem (mt_5 (List.mem_of_getElem? (i := 225) rfl)) rfl
theorem W_1456 : Cond.code yX12_peace cX12_peace 7 (some .int) ∈ jT := jT_mem (mt_9 (List.mem_of_getElem? (i := 40) rfl)) rfl
theorem W_1457 : Cond.methodLink RL 160 yX12_peace ∈ jT := jT_mem (mt_9 (List.mem_of_getElem? (i := 37) rfl)) rfl
theorem W_1458 : Cond.instanceMethod yX12_peace ∈ jT := jT_mem (mt_9 (List.mem_of_getElem? (i := 38) rfl)) rfl
theorem W_1459 : Cond.selects RX12 yX12_peace yX12_peace ∈ jT := jT_mem (mt_9 (List.mem_of_getElem? (i := 39) rfl)) rfl
theorem W_1460 : Cond.code yX11_lamps cX11_lamps 3 (some .int) ∈ jT := jT_mem (mt_5 (List.mem_of_getElem? (i := 236) rfl)) rfl
theorem W_1461 : Cond.methodLink RL 161 yX11_lamps ∈ jT := jT_mem (mt_5 (List.mem_of_getElem? (i := 233) rfl)) rfl
theorem W_1462 : Cond.instanceMethod yX11_lamps ∈ jT := jT_mem (mt_5 (List.mem_of_getElem? (i := 234) rfl)) rfl
theorem W_1463 : Cond.selects RX11 yX11_lamps yX11_lamps ∈ jT := jT_mem (mt_5 (List.mem_of_getElem? (i := 235) rfl)) rfl
theorem W_1464 : Cond.code yX12_lamps cX12_lamps 5 (some .int) ∈ jT := jT_mem (mt_9 (List.mem_of_getElem? (i := 44) rfl)) rfl
theorem W_1465 : Cond.methodLink RL 164 yX12_lamps ∈ jT := jT_mem (mt_9 (List.mem_of_getElem? (i := 41) rfl)) rfl
theorem W_1466 : Cond.instanceMethod yX12_lamps ∈ jT := jT_mem (mt_9 (List.mem_of_getElem? (i := 42) rfl)) rfl
theorem W_1467 : Cond.selects RX12 yX12_lamps yX12_lamps ∈ jT := jT_mem (mt_9 (List.mem_of_getElem? (i := 43) rfl)) rfl
theorem W_1468 : Cond.code yX11_would cX11_would 3 (some .int) ∈ jT := jT_mem (mt_6 (List.mem_of_getElem? (i := 0) rfl)) rfl
theorem W_1469 : Cond.methodLink RL 165 yX11_would ∈ jT := jT_mem (mt_5 (List.mem_of_getElem? (i := 237) rfl)) rfl
theorem W_1470 : Cond.instanceMethod yX11_would ∈ jT := jT_mem (mt_5 (List.mem_of_getElem? (i := 238) rfl)) rfl
theorem W_1471 : Cond.selects RX11 yX11_would yX11_would ∈ jT := jT_mem (mt_5 (List.mem_of_getElem? (i := 239) rfl)) rfl
theorem W_1472 : Cond.code yX12_would cX12_would 3 (some .int) ∈ jT := jT_mem (mt_9 (List.mem_of_getElem? (i := 48) rfl)) rfl
theorem W_1473 : Cond.methodLink RL 168 yX12_would ∈ jT := jT_mem (mt_9 (List.mem_of_getElem? (i := 45) rfl)) rfl
theorem W_1474 : Cond.instanceMethod yX12_would ∈ jT := jT_mem (mt_9 (List.mem_of_getElem? (i := 46) rfl)) rfl
theorem W_1475 : Cond.selects RX12 yX12_would yX12_would ∈ jT := jT_mem (mt_9 (List.mem_of_getElem? (i := 47) rfl)) rfl
theorem W_1476 : Cond.code yX11_best cX11_best 3 (some .int) ∈ jT := jT_mem (mt_6 (List.mem_of_getElem? (i := 5) rfl)) rfl
theorem W_1477 : Cond.methodLink RL 169 yX11_best ∈ jT := jT_mem (mt_6 (List.mem_of_getElem? (i := 2) rfl)) rfl
theorem W_1478 : Cond.instanceMethod yX11_best ∈ jT := jT_mem (mt_6 (List.mem_of_getElem? (i := 3) rfl)) rfl
theorem W_1479 : Cond.selects RX11 yX11_best yX11_best ∈ jT := jT_mem (mt_6 (List.mem_of_getElem? (i := 4) rfl)) rfl
theorem W_1480 : Cond.code yX12_best cX12_best 3 (some .int) ∈ jT := jT_mem (mt_9 (List.mem_of_getElem? (i := 56) rfl)) rfl
theorem W_1481 : Cond.methodLink RL 172 yX12_best ∈ jT := jT_mem (mt_9 (List.mem_of_getElem? (i := 53) rfl)) rfl
theorem W_1482 : Cond.instanceMethod yX12_best ∈ jT := jT_mem (mt_9 (List.mem_of_getElem? (i := 54) rfl)) rfl
theorem W_1483 : Cond.selects RX12 yX12_best yX12_best ∈ jT := jT_mem (mt_9 (List.mem_of_getElem? (i := 55) rfl)) rfl
theorem W_1484 : Cond.code yX11_market cX11_market 5 (some .int) ∈ jT := jT_mem (mt_6 (List.mem_of_getElem? (i := 13) rfl)) rfl
theorem W_1485 : Cond.methodLink RL 173 yX11_market ∈ jT := jT_mem (mt_6 (List.mem_of_getElem? (i := 10) rfl)) rfl
theorem W_1486 : Cond.instanceMethod yX11_market ∈ jT := jT_mem (mt_6 (List.mem_of_getElem? (i := 11) rfl)) rfl
theorem W_1487 : Cond.selects RX11 yX11_market yX11_market ∈ jT := jT_mem (mt_6 (List.mem_of_getElem? (i := 12) rfl)) rfl
theorem W_1488 : Cond.code yX12_market cX12_market 8 (some .int) ∈ jT := jT_mem (mt_9 (List.mem_of_getElem? (i := 64) rfl)) rfl
theorem W_1489 : Cond.methodLink RL 176 yX12_market ∈ jT := jT_mem (mt_9 (List.mem_of_getElem? (i := 61) rfl)) rfl
theorem W_1490 : Cond.instanceMethod yX12_market ∈ jT := jT_mem (mt_9 (List.mem_of_getElem? (i := 62) rfl)) rfl
theorem W_1491 : Cond.selects RX12 yX12_market yX12_market ∈ jT := jT_mem (mt_9 (List.mem_of_getElem? (i := 63) rfl)) rfl
theorem W_1492 : Cond.code yX11_parts cX11_parts 3 (some .int) ∈ jT := jT_mem (mt_6 (List.mem_of_getElem? (i := 31) rfl)) rfl
theorem W_1493 : Cond.methodLink RL 177 yX11_parts ∈ jT := jT_mem (mt_6 (List.mem_of_getElem? (i := 28) rfl)) rfl
theorem W_1494 : Cond.instanceMethod yX11_parts ∈ jT := jT_mem (mt_6 (List.mem_of_getElem? (i := 29) rfl)) rfl
theorem W_1495 : Cond.selects RX11 yX11_parts yX11_parts ∈ jT := jT_mem (mt_6 (List.mem_of_getElem? (i := 30) rfl)) rfl
theorem W_1496 : Cond.code yX12_parts cX12_parts 3 (some .int) ∈ jT := jT_mem (mt_9 (List.mem_of_getElem? (i := 68) rfl)) rfl
theorem W_1497 : Cond.methodLink RL 180 yX12_parts ∈ jT := jT_mem (mt_9 (List.mem_of_getElem? (i := 65) rfl)) rfl
theorem W_1498 : Cond.instanceMethod yX12_parts ∈ jT := jT_mem (mt_9 (List.mem_of_getElem? (i := 66) rfl)) rfl
theorem W_1499 : Cond.selects RX12 yX12_parts yX12_parts ∈ jT := jT_mem (mt_9 (List.mem_of_getElem? (i := 67) rfl)) rfl
theorem W_1500 : Cond.code yX11_sells cX11_sells 7 (some .int) ∈ jT := jT_mem (mt_6 (List.mem_of_getElem? (i := 36) rfl)) rfl
theorem W_1501 : Cond.methodLink RL 181 yX11_sells ∈ jT := jT_mem (mt_6 (List.mem_of_getElem? (i := 33) rfl)) rfl
theorem W_1502 : Cond.instanceMethod yX11_sells ∈ jT := jT_mem (mt_6 (List.mem_of_getElem? (i := 34) rfl)) rfl
theorem W_1503 : Cond.selects RX11 yX11_sells yX11_sells ∈ jT := jT_mem (mt_6 (List.mem_of_getElem? (i := 35) rfl)) rfl
theorem W_1504 : Cond.code yX12_sells cX12_sells 8 (some .int) ∈ jT := jT_mem (mt_9 (List.mem_of_getElem? (i := 72) rfl)) rfl
theorem W_1505 : Cond.methodLink RL 185 yX12_sells ∈ jT := jT_mem (mt_9 (List.mem_of_getElem? (i := 69) rfl)) rfl
theorem W_1506 : Cond.instanceMethod yX12_sells ∈ jT := jT_mem (mt_9 (List.mem_of_getElem? (i := 70) rfl)) rfl
theorem W_1507 : Cond.selects RX12 yX12_sells yX12_sells ∈ jT := jT_mem (mt_9 (List.mem_of_getElem? (i := 71) rfl)) rfl
theorem W_1508 : Cond.code yX11_dies cX11_dies 5 (some .int) ∈ jT := jT_mem (mt_6 (List.mem_of_getElem? (i := 49) rfl)) rfl
theorem W_1509 : Cond.methodLink RL 186 yX11_dies ∈ jT := jT_mem (mt_6 (List.mem_of_getElem? (i := 46) rfl)) rfl
theorem W_1510 : Cond.instanceMethod yX11_dies ∈ jT := jT_mem (mt_6 (List.mem_of_getElem? (i := 47) rfl)) rfl
theorem W_1511 : Cond.selects RX11 yX11_dies yX11_dies ∈ jT := jT_mem (mt_6 (List.mem_of_getElem? (i := 48) rfl)) rfl
theorem W_1512 : Cond.code yX12_dies cX12_dies 9 (some .int) ∈ jT := jT_mem (mt_9 (List.mem_of_getElem? (i := 80) rfl)) rfl
theorem W_1513 : Cond.methodLink RL 189 yX12_dies ∈ jT := jT_mem (mt_9 (List.mem_of_getElem? (i := 77) rfl)) rfl
theorem W_1514 : Cond.instanceMethod yX12_dies ∈ jT := jT_mem (mt_9 (List.mem_of_getElem? (i := 78) rfl)) rfl
theorem W_1515 : Cond.selects RX12 yX12_dies yX12_dies ∈ jT := jT_mem (mt_9 (List.mem_of_getElem? (i := 79) rfl)) rfl
theorem W_1516 : Cond.code yX11_undo cX11_undo 1 (some .int) ∈ jT := jT_mem (mt_6 (List.mem_of_getElem? (i := 64) rfl)) rfl
theorem W_1517 : Cond.methodLink RL 190 yX11_undo ∈ jT := jT_mem (mt_6 (List.mem_of_getElem? (i := 61) rfl)) rfl
theorem W_1518 : Cond.instanceMethod yX11_undo ∈ jT := jT_mem (mt_6 (List.mem_of_getElem? (i := 62) rfl)) rfl
theorem W_1519 : Cond.selects RX11 yX11_undo yX11_undo ∈ jT := jT_mem (mt_6 (List.mem_of_getElem? (i := 63) rfl)) rfl
theorem W_1520 : Cond.code yX12_undo cX12_undo 2 (some .int) ∈ jT := jT_mem (mt_9 (List.mem_of_getElem? (i := 85) rfl)) rfl
theorem W_1521 : Cond.methodLink RL 193 yX12_undo ∈ jT := jT_mem (mt_9 (List.mem_of_getElem? (i := 82) rfl)) rfl
theorem W_1522 : Cond.instanceMethod yX12_undo ∈ jT := jT_mem (mt_9 (List.mem_of_getElem? (i := 83) rfl)) rfl
theorem W_1523 : Cond.selects RX12 yX12_undo yX12_undo ∈ jT := jT_mem (mt_9 (List.mem_of_getElem? (i := 84) rfl)) rfl
theorem W_1524 : Cond.code yX11_rail cX11_rail 4 (some .int) ∈ jT := jT_mem (mt_6 (List.mem_of_getElem? (i := 72) rfl)) rfl
theorem W_1525 : Cond.methodLink RL 194 yX11_rail ∈ jT := jT_mem (mt_6 (List.mem_of_getElem? (i := 69) rfl)) rfl
theorem W_1526 : Cond.instanceMethod yX11_rail ∈ jT := jT_mem (mt_6 (List.mem_of_getElem? (i := 70) rfl)) rfl
theorem W_1527 : Cond.selects RX11 yX11_rail yX11_rail ∈ jT := jT_mem (mt_6 (List.mem_of_getElem? (i := 71) rfl)) rfl
theorem W_1528 : Cond.code yX12_rail cX12_rail 4 (some .int) ∈ jT := jT_mem (mt_9 (List.mem_of_getElem? (i := 89) rfl)) rfl
theorem W_1529 : Cond.methodLink RL 197 yX12_rail ∈ jT := jT_mem (mt_9 (List.mem_of_getElem? (i := 86) rfl)) rfl
theorem W_1530 : Cond.instanceMethod yX12_rail ∈ jT := jT_mem (mt_9 (List.mem_of_getElem? (i := 87) rfl)) rfl
theorem W_1531 : Cond.selects RX12 yX12_rail yX12_rail ∈ jT := jT_mem (mt_9 (List.mem_of_getElem? (i := 88) rfl)) rfl
theorem W_1532 : Cond.code yX11_rules cX11_rules 4 (some .int) ∈ jT := jT_mem (mt_6 (List.mem_of_getElem? (i := 81) rfl)) rfl
theorem W_1533 : Cond.methodLink RL 198 yX11_rules ∈ jT := jT_mem (mt_6 (List.mem_of_getElem? (i := 78) rfl)) rfl
theorem W_1534 : Cond.instanceMethod yX11_rules ∈ jT := jT_mem (mt_6 (List.mem_of_getElem? (i := 79) rfl)) rfl
theorem W_1535 : Cond.selects RX11 yX11_rules yX11_rules ∈ jT := jT_mem (mt_6 (List.mem_of_getElem? (i := 80) rfl)) rfl
theorem W_1536 : Cond.code yX12_rules cX12_rules 7 (some .int) ∈ jT := jT_mem (mt_9 (List.mem_of_getElem? (i := 93) rfl)) rfl
theorem W_1537 : Cond.methodLink RL 201 yX12_rules ∈ jT := jT_mem (mt_9 (List.mem_of_getElem? (i := 90) rfl)) rfl
theorem W_1538 : Cond.instanceMethod yX12_rules ∈ jT := jT_mem (mt_9 (List.mem_of_getElem? (i := 91) rfl)) rfl
theorem W_1539 : Cond.selects RX12 yX12_rules yX12_rules ∈ jT := jT_mem (mt_9 (List.mem_of_getElem? (i := 92) rfl)) rfl
theorem W_1540 : Cond.code yX11_feast cX11_feast 3 (some .int) ∈ jT := jT_mem (mt_6 (List.mem_of_getElem? (i := 94) rfl)) rfl
theorem W_1541 : Cond.methodLink RL 202 yX11_feast ∈ jT := jT_mem (mt_6 (List.mem_of_getElem? (i := 91) rfl)) rfl
theorem W_1542 : Cond.instanceMethod yX11_feast ∈ jT := jT_mem (mt_6 (List.mem_of_getElem? (i := 92) rfl)) rfl
theorem W_1543 : Cond.selects RX11 yX11_feast yX11_feast ∈ jT := jT_mem (mt_6 (List.mem_of_getElem? (i := 93) rfl)) rfl
theorem W_1544 : Cond.code yX12_feast cX12_feast 6 (some .int) ∈ jT := jT_mem (mt_9 (List.mem_of_getElem? (i := 97) rfl)) rfl
theorem W_1545 : Cond.methodLink RL 205 yX12_feast ∈ jT := jT_mem (mt_9 (List.mem_of_getElem? (i := 94) rfl)) rfl
theorem W_1546 : Cond.instanceMethod yX12_feast ∈ jT := jT_mem (mt_9 (List.mem_of_getElem? (i := 95) rfl)) rfl
theorem W_1547 : Cond.selects RX12 yX12_feast yX12_feast ∈ jT := jT_mem (mt_9 (List.mem_of_getElem? (i := 96) rfl)) rfl
theorem W_1548 : Cond.code yX11_jam cX11_jam 3 (some .int) ∈ jT := jT_mem (mt_6 (List.mem_of_getElem? (i := 130) rfl)) rfl
theorem W_1549 : Cond.methodLink RL 206 yX11_jam ∈ jT := jT_mem (mt_6 (List.mem_of_getElem? (i := 127) rfl)) rfl
theorem W_1550 : Cond.instanceMethod yX11_jam ∈ jT := jT_mem (mt_6 (List.mem_of_getElem? (i := 128) rfl)) rfl
theorem W_1551 : Cond.selects RX11 yX11_jam yX11_jam ∈ jT := jT_mem (mt_6 (List.mem_of_getElem? (i := 129) rfl)) rfl
theorem W_1552 : Cond.code yX12_jam cX12_jam 3 (some .int) ∈ jT := jT_mem (mt_9 (List.mem_of_getElem? (i := 113) rfl)) rfl
theorem W_1553 : Cond.methodLink RL 209 yX12_jam ∈ jT := jT_mem (mt_9 (List.mem_of_getElem? (i := 110) rfl)) rfl
theorem W_1554 : Cond.instanceMethod yX12_jam ∈ jT := jT_mem (mt_9 (List.mem_of_getElem? (i := 111) rfl)) rfl
theorem W_1555 : Cond.selects RX12 yX12_jam yX12_jam ∈ jT := jT_mem (mt_9 (List.mem_of_getElem? (i := 112) rfl)) rfl
theorem W_1556 : Cond.code yX11_keep cX11_keep 5 (some .boolean) ∈ jT := jT_mem (mt_6 (List.mem_of_getElem? (i := 134) rfl)) rfl
theorem W_1557 : Cond.methodLink RL 210 yX11_keep ∈ jT := jT_mem (mt_6 (List.mem_of_getElem? (i := 131) rfl)) rfl
theorem W_1558 : Cond.instanceMethod yX11_keep ∈ jT := jT_mem (mt_6 (List.mem_of_getElem? (i := 132) rfl)) rfl
theorem W_1559 : Cond.selects RX11 yX11_keep yX11_keep ∈ jT := jT_mem (mt_6 (List.mem_of_getElem? (i := 133) rfl)) rfl
theorem W_1560 : Cond.code yX12_keep cX12_keep 3 (some .boolean) ∈ jT := jT_mem (mt_9 (List.mem_of_getElem? (i := 117) rfl)) rfl
theorem W_1561 : Cond.methodLink RL 213 yX12_keep ∈ jT := jT_mem (mt_9 (List.mem_of_getElem? (i := 114) rfl)) rfl
theorem W_1562 : Cond.instanceMethod yX12_keep ∈ jT := jT_mem (mt_9 (List.mem_of_getElem? (i := 115) rfl)) rfl
theorem W_1563 : Cond.selects RX12 yX12_keep yX12_keep ∈ jT := jT_mem (mt_9 (List.mem_of_getElem? (i := 116) rfl)) rfl
theorem W_1564 : Cond.code yX11_again cX11_again 5 (some .boolean) ∈ jT := jT_mem (mt_6 (List.mem_of_getElem? (i := 147) rfl)) rfl
theorem W_1565 : Cond.methodLink RL 214 yX11_again ∈ jT := jT_mem (mt_6 (List.mem_of_getElem? (i := 144) rfl)) rfl
theorem W_1566 : Cond.instanceMethod yX11_again ∈ jT := jT_mem (mt_6 (List.mem_of_getElem? (i := 145) rfl)) rfl
theorem W_1567 : Cond.selects RX11 yX11_again yX11_again ∈ jT := jT_mem (mt_6 (List.mem_of_getElem? (i := 146) rfl)) rfl
theorem W_1568 : Cond.code yX12_again cX12_again 6 (some .boolean) ∈ jT := jT_mem (mt_9 (List.mem_of_getElem? (i := 125) rfl)) rfl
theorem W_1569 : Cond.methodLink RL 217 yX12_again ∈ jT := jT_mem (mt_9 (List.mem_of_getElem? (i := 122) rfl)) rfl
theorem W_1570 : Cond.instanceMethod yX12_again ∈ jT := jT_mem (mt_9 (List.mem_of_getElem? (i := 123) rfl)) rfl
theorem W_1571 : Cond.selects RX12 yX12_again yX12_again ∈ jT := jT_mem (mt_9 (List.mem_of_getElem? (i := 124) rfl)) rfl
theorem W_1572 : Cond.code yX11_count cX11_count 2 (some .int) ∈ jT := jT_mem (mt_6 (List.mem_of_getElem? (i := 163) rfl)) rfl
theorem W_1573 : Cond.methodLink RL 218 yX11_count ∈ jT := jT_mem (mt_6 (List.mem_of_getElem? (i := 160) rfl)) rfl
theorem W_1574 : Cond.instanceMethod yX11_count ∈ jT := jT_mem (mt_6 (List.mem_of_getElem? (i := 161) rfl)) rfl
theorem W_1575 : Cond.selects RX11 yX11_count yX11_count ∈ jT := jT_mem (mt_6 (List.mem_of_getElem? (i := 162) rfl)) rfl
theorem W_1576 : Cond.code yX12_count cX12_count 5 (some .int) ∈ jT := jT_mem (mt_9 (List.mem_of_getElem? (i := 133) rfl)) rfl
theorem W_1577 : Cond.methodLink RL 221 yX12_count ∈ jT := jT_mem (mt_9 (List.mem_of_getElem? (i := 130) rfl)) rfl
theorem W_1578 : Cond.instanceMethod yX12_count ∈ jT := jT_mem (mt_9 (List.mem_of_getElem? (i := 131) rfl)) rfl
theorem W_1579 : Cond.selects RX12 yX12_count yX12_count ∈ jT := jT_mem (mt_9 (List.mem_of_getElem? (i := 132) rfl)) rfl
theorem W_1580 : Cond.methodLink RL 222 yL_row ∈ jT := jT_mem (mt_7 (List.mem_of_getElem? (i := 17) rfl)) rfl
theorem W_1581 : Cond.static yL_row ∈ jT := jT_mem (mt_7 (List.mem_of_getElem? (i := 18) rfl)) rfl
theorem W_1582 : Cond.codeWith yL_row cL_row 4 (some .int) [(0, 8, 11, 13)] ∈ jT := jT_mem (mt_7 (List.mem_of_getElem? (i := 19) rfl)) rfl
theorem W_1583 : Cond.code yX12_row cX12_row 2 (some .long) ∈ jT := jT_mem (mt_9 (List.mem_of_getElem? (i := 137) rfl)) rfl
theorem W_1584 : Cond.methodLink RL 225 yX12_row ∈ jT := jT_mem (mt_9 (List.mem_of_getElem? (i := 134) rfl)) rfl
theorem W_1585 : Cond.instanceMethod yX12_row ∈ jT := jT_mem (mt_9 (List.mem_of_getElem? (i := 135) rfl)) rfl
theorem W_1586 : Cond.selects RX12 yX12_row yX12_row ∈ jT := jT_mem (mt_9 (List.mem_of_getElem? (i := 136) rfl)) rfl
theorem W_1587 : Cond.classLink RL 8 RX11 ∈ jT := jT_mem (mt_1 (List.mem_of_getElem? (i := 27) rfl)) rfl
theorem W_1588 : Cond.instantiable RX11 17 ∈ jT := jT_mem (mt_1 (List.mem_of_getElem? (i := 28) rfl)) rfl
theorem W_1589 : Cond.code yX11_init cX11_init 1 none ∈ jT := jT_mem (mt_1 (List.mem_of_getElem? (i := 31) rfl)) rfl
theorem W_1590 : Cond.methodLink RL 22 yX11_init ∈ jT := jT_mem (mt_1 (List.mem_of_getElem? (i := 29) rfl)) rfl
theorem W_1591 : Cond.instanceMethod yX11_init ∈ jT := jT_mem (mt_1 (List.mem_of_getElem? (i := 30) rfl)) rfl
theorem W_1592 : Cond.classLink RL 23 RX12 ∈ jT := jT_mem (mt_7 (List.mem_of_getElem? (i := 25) rfl)) rfl
theorem W_1593 : Cond.instantiable RX12 67 ∈ jT := jT_mem (mt_7 (List.mem_of_getElem? (i := 26) rfl)) rfl
theorem W_1594 : Cond.code yX12_init cX12_init 1 none ∈ jT := jT_mem (mt_7 (List.mem_of_getElem? (i := 29) rfl)) rfl
theorem W_1595 : Cond.methodLink RL 25 yX12_init ∈ jT := jT_mem (mt_7 (List.mem_of_getElem? (i := 27) rfl)) rfl
theorem W_1596 : Cond.instanceMethod yX12_init ∈ jT := jT_mem (mt_7 (List.mem_of_getElem? (i := 28) rfl)) rfl
theorem fy_L_of : yL_of.cls ≠ "java/lang/invoke/MethodHandle" ∧ yL_of.cls ≠ "java/lang/invoke/VarHandle" ∧ (parseMethodDescriptor yL_of.desc).map (fun d => d.parameters.length) = some 4 := by decide +kernel
theorem fy_L_row : yL_row.cls ≠ "java/lang/invoke/MethodHandle" ∧ yL_row.cls ≠ "java/lang/invoke/VarHandle" ∧ (parseMethodDescriptor yL_row.desc).map (fun d => d.parameters.length) = some 3 := by decide +kernel
theorem fy_L_step : yL_step.cls ≠ "java/lang/invoke/MethodHandle" ∧ yL_step.cls ≠ "java/lang/invoke/VarHandle" ∧ (parseMethodDescriptor yL_step.desc).map (fun d => d.parameters.length) = some 4 := by decide +kernel
theorem fy_X11_again : yX11_again.cls ≠ "java/lang/invoke/MethodHandle" ∧ yX11_again.cls ≠ "java/lang/invoke/VarHandle" ∧ (parseMethodDescriptor yX11_again.desc).map (fun d => d.parameters.length) = some 1 := by decide +kernel
theorem fy_X11_all : yX11_all.cls ≠ "java/lang/invoke/MethodHandle" ∧ yX11_all.cls ≠ "java/lang/invoke/VarHandle" ∧ (parseMethodDescriptor yX11_all.desc).map (fun d => d.parameters.length) = some 0 := by decide +kernel
theorem fy_X11_bears : yX11_bears.cls ≠ "java/lang/invoke/MethodHandle" ∧ yX11_bears.cls ≠ "java/lang/invoke/VarHandle" ∧ (parseMethodDescriptor yX11_bears.desc).map (fun d => d.parameters.length) = some 1 := by decide +kernel
theorem fy_X11_best : yX11_best.cls ≠ "java/lang/invoke/MethodHandle" ∧ yX11_best.cls ≠ "java/lang/invoke/VarHandle" ∧ (parseMethodDescriptor yX11_best.desc).map (fun d => d.parameters.length) = some 1 := by decide +kernel
theorem fy_X11_breaks : yX11_breaks.cls ≠ "java/lang/invoke/MethodHandle" ∧ yX11_breaks.cls ≠ "java/lang/invoke/VarHandle" ∧ (parseMethodDescriptor yX11_breaks.desc).map (fun d => d.parameters.length) = some 1 := by decide +kernel
theorem fy_X11_climb : yX11_climb.cls ≠ "java/lang/invoke/MethodHandle" ∧ yX11_climb.cls ≠ "java/lang/invoke/VarHandle" ∧ (parseMethodDescriptor yX11_climb.desc).map (fun d => d.parameters.length) = some 1 := by decide +kernel
theorem fy_X11_costs : yX11_costs.cls ≠ "java/lang/invoke/MethodHandle" ∧ yX11_costs.cls ≠ "java/lang/invoke/VarHandle" ∧ (parseMethodDescriptor yX11_costs.desc).map (fun d => d.parameters.length) = some 2 := by decide +kernel
theorem fy_X11_count : yX11_count.cls ≠ "java/lang/invoke/MethodHandle" ∧ yX11_count.cls ≠ "java/lang/invoke/VarHandle" ∧ (parseMethodDescriptor yX11_count.desc).map (fun d => d.parameters.length) = some 1 := by decide +kernel
theorem fy_X11_dies : yX11_dies.cls ≠ "java/lang/invoke/MethodHandle" ∧ yX11_dies.cls ≠ "java/lang/invoke/VarHandle" ∧ (parseMethodDescriptor yX11_dies.desc).map (fun d => d.parameters.length) = some 2 := by decide +kernel
theorem fy_X11_earned : yX11_earned.cls ≠ "java/lang/invoke/MethodHandle" ∧ yX11_earned.cls ≠ "java/lang/invoke/VarHandle" ∧ (parseMethodDescriptor yX11_earned.desc).map (fun d => d.parameters.length) = some 1 := by decide +kernel
theorem fy_X11_end : yX11_end.cls ≠ "java/lang/invoke/MethodHandle" ∧ yX11_end.cls ≠ "java/lang/invoke/VarHandle" ∧ (parseMethodDescriptor yX11_end.desc).map (fun d => d.parameters.length) = some 1 := by decide +kernel
theorem fy_X11_feast : yX11_feast.cls ≠ "java/lang/invoke/MethodHandle" ∧ yX11_feast.cls ≠ "java/lang/invoke/VarHandle" ∧ (parseMethodDescriptor yX11_feast.desc).map (fun d => d.parameters.length) = some 1 := by decide +kernel
theorem fy_X11_feud : yX11_feud.cls ≠ "java/lang/invoke/MethodHandle" ∧ yX11_feud.cls ≠ "java/lang/invoke/VarHandle" ∧ (parseMethodDescriptor yX11_feud.desc).map (fun d => d.parameters.length) = some 3 := by decide +kernel
theorem fy_X11_init : yX11_init.cls ≠ "java/lang/invoke/MethodHandle" ∧ yX11_init.cls ≠ "java/lang/invoke/VarHandle" ∧ (parseMethodDescriptor yX11_init.desc).map (fun d => d.parameters.length) = some 0 := by decide +kernel
theorem fy_X11_jam : yX11_jam.cls ≠ "java/lang/invoke/MethodHandle" ∧ yX11_jam.cls ≠ "java/lang/invoke/VarHandle" ∧ (parseMethodDescriptor yX11_jam.desc).map (fun d => d.parameters.length) = some 0 := by decide +kernel
theorem fy_X11_keep : yX11_keep.cls ≠ "java/lang/invoke/MethodHandle" ∧ yX11_keep.cls ≠ "java/lang/invoke/VarHandle" ∧ (parseMethodDescriptor yX11_keep.desc).map (fun d => d.parameters.length) = some 1 := by decide +kernel
theorem fy_X11_knees : yX11_knees.cls ≠ "java/lang/invoke/MethodHandle" ∧ yX11_knees.cls ≠ "java/lang/invoke/VarHandle" ∧ (parseMethodDescriptor yX11_knees.desc).map (fun d => d.parameters.length) = some 1 := by decide +kernel
theorem fy_X11_lamps : yX11_lamps.cls ≠ "java/lang/invoke/MethodHandle" ∧ yX11_lamps.cls ≠ "java/lang/invoke/VarHandle" ∧ (parseMethodDescriptor yX11_lamps.desc).map (fun d => d.parameters.length) = some 1 := by decide +kernel
theorem fy_X11_law : yX11_law.cls ≠ "java/lang/invoke/MethodHandle" ∧ yX11_law.cls ≠ "java/lang/invoke/VarHandle" ∧ (parseMethodDescriptor yX11_law.desc).map (fun d => d.parameters.length) = some 1 := by decide +kernel
theorem fy_X11_market : yX11_market.cls ≠ "java/lang/invoke/MethodHandle" ∧ yX11_market.cls ≠ "java/lang/invoke/VarHandle" ∧ (parseMethodDescriptor yX11_market.desc).map (fun d => d.parameters.length) = some 1 := by decide +kernel
theorem fy_X11_mends : yX11_mends.cls ≠ "java/lang/invoke/MethodHandle" ∧ yX11_mends.cls ≠ "java/lang/invoke/VarHandle" ∧ (parseMethodDescriptor yX11_mends.desc).map (fun d => d.parameters.length) = some 1 := by decide +kernel
theorem fy_X11_next : yX11_next.cls ≠ "java/lang/invoke/MethodHandle" ∧ yX11_next.cls ≠ "java/lang/invoke/VarHandle" ∧ (parseMethodDescriptor yX11_next.desc).map (fun d => d.parameters.length) = some 2 := by decide +kernel
theorem fy_X11_parts : yX11_parts.cls ≠ "java/lang/invoke/MethodHandle" ∧ yX11_parts.cls ≠ "java/lang/invoke/VarHandle" ∧ (parseMethodDescriptor yX11_parts.desc).map (fun d => d.parameters.length) = some 2 := by decide +kernel
theorem fy_X11_peace : yX11_peace.cls ≠ "java/lang/invoke/MethodHandle" ∧ yX11_peace.cls ≠ "java/lang/invoke/VarHandle" ∧ (parseMethodDescriptor yX11_peace.desc).map (fun d => d.parameters.length) = some 0 := by decide +kernel
theorem fy_X11_pilgrim : yX11_pilgrim.cls ≠ "java/lang/invoke/MethodHandle" ∧ yX11_pilgrim.cls ≠ "java/lang/invoke/VarHandle" ∧ (parseMethodDescriptor yX11_pilgrim.desc).map (fun d => d.parameters.length) = some 4 := by decide +kernel
theorem fy_X11_rail : yX11_rail.cls ≠ "java/lang/invoke/MethodHandle" ∧ yX11_rail.cls ≠ "java/lang/invoke/VarHandle" ∧ (parseMethodDescriptor yX11_rail.desc).map (fun d => d.parameters.length) = some 1 := by decide +kernel
theorem fy_X11_rests : yX11_rests.cls ≠ "java/lang/invoke/MethodHandle" ∧ yX11_rests.cls ≠ "java/lang/invoke/VarHandle" ∧ (parseMethodDescriptor yX11_rests.desc).map (fun d => d.parameters.length) = some 2 := by decide +kernel
theorem fy_X11_returns : yX11_returns.cls ≠ "java/lang/invoke/MethodHandle" ∧ yX11_returns.cls ≠ "java/lang/invoke/VarHandle" ∧ (parseMethodDescriptor yX11_returns.desc).map (fun d => d.parameters.length) = some 1 := by decide +kernel
theorem fy_X11_rules : yX11_rules.cls ≠ "java/lang/invoke/MethodHandle" ∧ yX11_rules.cls ≠ "java/lang/invoke/VarHandle" ∧ (parseMethodDescriptor yX11_rules.desc).map (fun d => d.parameters.length) = some 2 := by decide +kernel
theorem fy_X11_sells : yX11_sells.cls ≠ "java/lang/invoke/MethodHandle" ∧ yX11_sells.cls ≠ "java/lang/invoke/VarHandle" ∧ (parseMethodDescriptor yX11_sells.desc).map (fun d => d.parameters.length) = some 5 := by decide +kernel
theorem fy_X11_set : yX11_set.cls ≠ "java/lang/invoke/MethodHandle" ∧ yX11_set.cls ≠ "java/lang/invoke/VarHandle" ∧ (parseMethodDescriptor yX11_set.desc).map (fun d => d.parameters.length) = some 3 := by decide +kernel
theorem fy_X11_sheet : yX11_sheet.cls ≠ "java/lang/invoke/MethodHandle" ∧ yX11_sheet.cls ≠ "java/lang/invoke/VarHandle" ∧ (parseMethodDescriptor yX11_sheet.desc).map (fun d => d.parameters.length) = some 4 := by decide +kernel
theorem fy_X11_shut : yX11_shut.cls ≠ "java/lang/invoke/MethodHandle" ∧ yX11_shut.cls ≠ "java/lang/invoke/VarHandle" ∧ (parseMethodDescriptor yX11_shut.desc).map (fun d => d.parameters.length) = some 1 := by decide +kernel
theorem fy_X11_sign : yX11_sign.cls ≠ "java/lang/invoke/MethodHandle" ∧ yX11_sign.cls ≠ "java/lang/invoke/VarHandle" ∧ (parseMethodDescriptor yX11_sign.desc).map (fun d => d.parameters.length) = some 1 := by decide +kernel
theorem fy_X11_stairs : yX11_stairs.cls ≠ "java/lang/invoke/MethodHandle" ∧ yX11_stairs.cls ≠ "java/lang/invoke/VarHandle" ∧ (parseMethodDescriptor yX11_stairs.desc).map (fun d => d.parameters.length) = some 0 := by decide +kernel
theorem fy_X11_toll : yX11_toll.cls ≠ "java/lang/invoke/MethodHandle" ∧ yX11_toll.cls ≠ "java/lang/invoke/VarHandle" ∧ (parseMethodDescriptor yX11_toll.desc).map (fun d => d.parameters.length) = some 1 := by decide +kernel
theorem fy_X11_tread : yX11_tread.cls ≠ "java/lang/invoke/MethodHandle" ∧ yX11_tread.cls ≠ "java/lang/invoke/VarHandle" ∧ (parseMethodDescriptor yX11_tread.desc).map (fun d => d.parameters.length) = some 2 := by decide +kernel
theorem fy_X11_trod : yX11_trod.cls ≠ "java/lang/invoke/MethodHandle" ∧ yX11_trod.cls ≠ "java/lang/invoke/VarHandle" ∧ (parseMethodDescriptor yX11_trod.desc).map (fun d => d.parameters.length) = some 3 := by decide +kernel
theorem fy_X11_undo : yX11_undo.cls ≠ "java/lang/invoke/MethodHandle" ∧ yX11_undo.cls ≠ "java/lang/invoke/VarHandle" ∧ (parseMethodDescriptor yX11_undo.desc).map (fun d => d.parameters.length) = some 0 := by decide +kernel
theorem fy_X11_vow : yX11_vow.cls ≠ "java/lang/invoke/MethodHandle" ∧ yX11_vow.cls ≠ "java/lang/invoke/VarHandle" ∧ (parseMethodDescriptor yX11_vow.desc).map (fun d => d.parameters.length) = some 2 := by decide +kernel
theorem fy_X11_ways : yX11_ways.cls ≠ "java/lang/invoke/MethodHandle" ∧ yX11_ways.cls ≠ "java/lang/invoke/VarHandle" ∧ (parseMethodDescriptor yX11_ways.desc).map (fun d => d.parameters.length) = some 2 := by decide +kernel
theorem fy_X11_wears : yX11_wears.cls ≠ "java/lang/invoke/MethodHandle" ∧ yX11_wears.cls ≠ "java/lang/invoke/VarHandle" ∧ (parseMethodDescriptor yX11_wears.desc).map (fun d => d.parameters.length) = some 1 := by decide +kernel
theorem fy_X11_who : yX11_who.cls ≠ "java/lang/invoke/MethodHandle" ∧ yX11_who.cls ≠ "java/lang/invoke/VarHandle" ∧ (parseMethodDescriptor yX11_who.desc).map (fun d => d.parameters.length) = some 2 := by decide +kernel
theorem fy_X11_whole : yX11_whole.cls ≠ "java/lang/invoke/MethodHandle" ∧ yX11_whole.cls ≠ "java/lang/invoke/VarHandle" ∧ (parseMethodDescriptor yX11_whole.desc).map (fun d => d.parameters.length) = some 1 := by decide +kernel
theorem fy_X11_would : yX11_would.cls ≠ "java/lang/invoke/MethodHandle" ∧ yX11_would.cls ≠ "java/lang/invoke/VarHandle" ∧ (parseMethodDescriptor yX11_would.desc).map (fun d => d.parameters.length) = some 2 := by decide +kernel
theorem fy_X12_again : yX12_again.cls ≠ "java/lang/invoke/MethodHandle" ∧ yX12_again.cls ≠ "java/lang/invoke/VarHandle" ∧ (parseMethodDescriptor yX12_again.desc).map (fun d => d.parameters.length) = some 1 := by decide +kernel
theorem fy_X12_all : yX12_all.cls ≠ "java/lang/invoke/MethodHandle" ∧ yX12_all.cls ≠ "java/lang/invoke/VarHandle" ∧ (parseMethodDescriptor yX12_all.desc).map (fun d => d.parameters.length) = some 0 := by decide +kernel
theorem fy_X12_bears : yX12_bears.cls ≠ "java/lang/invoke/MethodHandle" ∧ yX12_bears.cls ≠ "java/lang/invoke/VarHandle" ∧ (parseMethodDescriptor yX12_bears.desc).map (fun d => d.parameters.length) = some 1 := by decide +kernel
theorem fy_X12_best : yX12_best.cls ≠ "java/lang/invoke/MethodHandle" ∧ yX12_best.cls ≠ "java/lang/invoke/VarHandle" ∧ (parseMethodDescriptor yX12_best.desc).map (fun d => d.parameters.length) = some 1 := by decide +kernel
theorem fy_X12_breaks : yX12_breaks.cls ≠ "java/lang/invoke/MethodHandle" ∧ yX12_breaks.cls ≠ "java/lang/invoke/VarHandle" ∧ (parseMethodDescriptor yX12_breaks.desc).map (fun d => d.parameters.length) = some 1 := by decide +kernel
theorem fy_X12_climb : yX12_climb.cls ≠ "java/lang/invoke/MethodHandle" ∧ yX12_climb.cls ≠ "java/lang/invoke/VarHandle" ∧ (parseMethodDescriptor yX12_climb.desc).map (fun d => d.parameters.length) = some 1 := by decide +kernel
theorem fy_X12_costs : yX12_costs.cls ≠ "java/lang/invoke/MethodHandle" ∧ yX12_costs.cls ≠ "java/lang/invoke/VarHandle" ∧ (parseMethodDescriptor yX12_costs.desc).map (fun d => d.parameters.length) = some 2 := by decide +kernel
theorem fy_X12_count : yX12_count.cls ≠ "java/lang/invoke/MethodHandle" ∧ yX12_count.cls ≠ "java/lang/invoke/VarHandle" ∧ (parseMethodDescriptor yX12_count.desc).map (fun d => d.parameters.length) = some 1 := by decide +kernel
theorem fy_X12_dies : yX12_dies.cls ≠ "java/lang/invoke/MethodHandle" ∧ yX12_dies.cls ≠ "java/lang/invoke/VarHandle" ∧ (parseMethodDescriptor yX12_dies.desc).map (fun d => d.parameters.length) = some 2 := by decide +kernel
theorem fy_X12_earned : yX12_earned.cls ≠ "java/lang/invoke/MethodHandle" ∧ yX12_earned.cls ≠ "java/lang/invoke/VarHandle" ∧ (parseMethodDescriptor yX12_earned.desc).map (fun d => d.parameters.length) = some 1 := by decide +kernel
theorem fy_X12_end : yX12_end.cls ≠ "java/lang/invoke/MethodHandle" ∧ yX12_end.cls ≠ "java/lang/invoke/VarHandle" ∧ (parseMethodDescriptor yX12_end.desc).map (fun d => d.parameters.length) = some 1 := by decide +kernel
theorem fy_X12_feast : yX12_feast.cls ≠ "java/lang/invoke/MethodHandle" ∧ yX12_feast.cls ≠ "java/lang/invoke/VarHandle" ∧ (parseMethodDescriptor yX12_feast.desc).map (fun d => d.parameters.length) = some 1 := by decide +kernel
theorem fy_X12_feud : yX12_feud.cls ≠ "java/lang/invoke/MethodHandle" ∧ yX12_feud.cls ≠ "java/lang/invoke/VarHandle" ∧ (parseMethodDescriptor yX12_feud.desc).map (fun d => d.parameters.length) = some 3 := by decide +kernel
theorem fy_X12_init : yX12_init.cls ≠ "java/lang/invoke/MethodHandle" ∧ yX12_init.cls ≠ "java/lang/invoke/VarHandle" ∧ (parseMethodDescriptor yX12_init.desc).map (fun d => d.parameters.length) = some 0 := by decide +kernel
theorem fy_X12_jam : yX12_jam.cls ≠ "java/lang/invoke/MethodHandle" ∧ yX12_jam.cls ≠ "java/lang/invoke/VarHandle" ∧ (parseMethodDescriptor yX12_jam.desc).map (fun d => d.parameters.length) = some 0 := by decide +kernel
theorem fy_X12_keep : yX12_keep.cls ≠ "java/lang/invoke/MethodHandle" ∧ yX12_keep.cls ≠ "java/lang/invoke/VarHandle" ∧ (parseMethodDescriptor yX12_keep.desc).map (fun d => d.parameters.length) = some 1 := by decide +kernel
theorem fy_X12_knees : yX12_knees.cls ≠ "java/lang/invoke/MethodHandle" ∧ yX12_knees.cls ≠ "java/lang/invoke/VarHandle" ∧ (parseMethodDescriptor yX12_knees.desc).map (fun d => d.parameters.length) = some 1 := by decide +kernel
theorem fy_X12_lamps : yX12_lamps.cls ≠ "java/lang/invoke/MethodHandle" ∧ yX12_lamps.cls ≠ "java/lang/invoke/VarHandle" ∧ (parseMethodDescriptor yX12_lamps.desc).map (fun d => d.parameters.length) = some 1 := by decide +kernel
theorem fy_X12_law : yX12_law.cls ≠ "java/lang/invoke/MethodHandle" ∧ yX12_law.cls ≠ "java/lang/invoke/VarHandle" ∧ (parseMethodDescriptor yX12_law.desc).map (fun d => d.parameters.length) = some 1 := by decide +kernel
theorem fy_X12_market : yX12_market.cls ≠ "java/lang/invoke/MethodHandle" ∧ yX12_market.cls ≠ "java/lang/invoke/VarHandle" ∧ (parseMethodDescriptor yX12_market.desc).map (fun d => d.parameters.length) = some 1 := by decide +kernel
theorem fy_X12_mends : yX12_mends.cls ≠ "java/lang/invoke/MethodHandle" ∧ yX12_mends.cls ≠ "java/lang/invoke/VarHandle" ∧ (parseMethodDescriptor yX12_mends.desc).map (fun d => d.parameters.length) = some 1 := by decide +kernel
theorem fy_X12_next : yX12_next.cls ≠ "java/lang/invoke/MethodHandle" ∧ yX12_next.cls ≠ "java/lang/invoke/VarHandle" ∧ (parseMethodDescriptor yX12_next.desc).map (fun d => d.parameters.length) = some 2 := by decide +kernel
theorem fy_X12_of : yX12_of.cls ≠ "java/lang/invoke/MethodHandle" ∧ yX12_of.cls ≠ "java/lang/invoke/VarHandle" ∧ (parseMethodDescriptor yX12_of.desc).map (fun d => d.parameters.length) = some 2 := by decide +kernel
theorem fy_X12_parts : yX12_parts.cls ≠ "java/lang/invoke/MethodHandle" ∧ yX12_parts.cls ≠ "java/lang/invoke/VarHandle" ∧ (parseMethodDescriptor yX12_parts.desc).map (fun d => d.parameters.length) = some 2 := by decide +kernel
theorem fy_X12_peace : yX12_peace.cls ≠ "java/lang/invoke/MethodHandle" ∧ yX12_peace.cls ≠ "java/lang/invoke/VarHandle" ∧ (parseMethodDescriptor yX12_peace.desc).map (fun d => d.parameters.length) = some 0 := by decide +kernel
theorem fy_X12_pilgrim : yX12_pilgrim.cls ≠ "java/lang/invoke/MethodHandle" ∧ yX12_pilgrim.cls ≠ "java/lang/invoke/VarHandle" ∧ (parseMethodDescriptor yX12_pilgrim.desc).map (fun d => d.parameters.length) = some 4 := by decide +kernel
theorem fy_X12_rail : yX12_rail.cls ≠ "java/lang/invoke/MethodHandle" ∧ yX12_rail.cls ≠ "java/lang/invoke/VarHandle" ∧ (parseMethodDescriptor yX12_rail.desc).map (fun d => d.parameters.length) = some 1 := by decide +kernel
theorem fy_X12_rests : yX12_rests.cls ≠ "java/lang/invoke/MethodHandle" ∧ yX12_rests.cls ≠ "java/lang/invoke/VarHandle" ∧ (parseMethodDescriptor yX12_rests.desc).map (fun d => d.parameters.length) = some 2 := by decide +kernel
theorem fy_X12_returns : yX12_returns.cls ≠ "java/lang/invoke/MethodHandle" ∧ yX12_returns.cls ≠ "java/lang/invoke/VarHandle" ∧ (parseMethodDescriptor yX12_returns.desc).map (fun d => d.parameters.length) = some 1 := by decide +kernel
theorem fy_X12_row : yX12_row.cls ≠ "java/lang/invoke/MethodHandle" ∧ yX12_row.cls ≠ "java/lang/invoke/VarHandle" ∧ (parseMethodDescriptor yX12_row.desc).map (fun d => d.parameters.length) = some 1 := by decide +kernel
theorem fy_X12_rules : yX12_rules.cls ≠ "java/lang/invoke/MethodHandle" ∧ yX12_rules.cls ≠ "java/lang/invoke/VarHandle" ∧ (parseMethodDescriptor yX12_rules.desc).map (fun d => d.parameters.length) = some 2 := by decide +kernel
theorem fy_X12_sells : yX12_sells.cls ≠ "java/lang/invoke/MethodHandle" ∧ yX12_sells.cls ≠ "java/lang/invoke/VarHandle" ∧ (parseMethodDescriptor yX12_sells.desc).map (fun d => d.parameters.length) = some 5 := by decide +kernel
theorem fy_X12_set : yX12_set.cls ≠ "java/lang/invoke/MethodHandle" ∧ yX12_set.cls ≠ "java/lang/invoke/VarHandle" ∧ (parseMethodDescriptor yX12_set.desc).map (fun d => d.parameters.length) = some 3 := by decide +kernel
theorem fy_X12_sheet : yX12_sheet.cls ≠ "java/lang/invoke/MethodHandle" ∧ yX12_sheet.cls ≠ "java/lang/invoke/VarHandle" ∧ (parseMethodDescriptor yX12_sheet.desc).map (fun d => d.parameters.length) = some 4 := by decide +kernel
theorem fy_X12_shut : yX12_shut.cls ≠ "java/lang/invoke/MethodHandle" ∧ yX12_shut.cls ≠ "java/lang/invoke/VarHandle" ∧ (parseMethodDescriptor yX12_shut.desc).map (fun d => d.parameters.length) = some 1 := by decide +kernel
theorem fy_X12_sign : yX12_sign.cls ≠ "java/lang/invoke/MethodHandle" ∧ yX12_sign.cls ≠ "java/lang/invoke/VarHandle" ∧ (parseMethodDescriptor yX12_sign.desc).map (fun d => d.parameters.length) = some 1 := by decide +kernel
theorem fy_X12_stairs : yX12_stairs.cls ≠ "java/lang/invoke/MethodHandle" ∧ yX12_stairs.cls ≠ "java/lang/invoke/VarHandle" ∧ (parseMethodDescriptor yX12_stairs.desc).map (fun d => d.parameters.length) = some 0 := by decide +kernel
theorem fy_X12_step : yX12_step.cls ≠ "java/lang/invoke/MethodHandle" ∧ yX12_step.cls ≠ "java/lang/invoke/VarHandle" ∧ (parseMethodDescriptor yX12_step.desc).map (fun d => d.parameters.length) = some 2 := by decide +kernel
theorem fy_X12_thrown : yX12_thrown.cls ≠ "java/lang/invoke/MethodHandle" ∧ yX12_thrown.cls ≠ "java/lang/invoke/VarHandle" ∧ (parseMethodDescriptor yX12_thrown.desc).map (fun d => d.parameters.length) = some 0 := by decide +kernel
theorem fy_X12_toll : yX12_toll.cls ≠ "java/lang/invoke/MethodHandle" ∧ yX12_toll.cls ≠ "java/lang/invoke/VarHandle" ∧ (parseMethodDescriptor yX12_toll.desc).map (fun d => d.parameters.length) = some 1 := by decide +kernel
theorem fy_X12_tread : yX12_tread.cls ≠ "java/lang/invoke/MethodHandle" ∧ yX12_tread.cls ≠ "java/lang/invoke/VarHandle" ∧ (parseMethodDescriptor yX12_tread.desc).map (fun d => d.parameters.length) = some 2 := by decide +kernel
theorem fy_X12_trod : yX12_trod.cls ≠ "java/lang/invoke/MethodHandle" ∧ yX12_trod.cls ≠ "java/lang/invoke/VarHandle" ∧ (parseMethodDescriptor yX12_trod.desc).map (fun d => d.parameters.length) = some 3 := by decide +kernel
theorem fy_X12_undo : yX12_undo.cls ≠ "java/lang/invoke/MethodHandle" ∧ yX12_undo.cls ≠ "java/lang/invoke/VarHandle" ∧ (parseMethodDescriptor yX12_undo.desc).map (fun d => d.parameters.length) = some 0 := by decide +kernel
theorem fy_X12_vow : yX12_vow.cls ≠ "java/lang/invoke/MethodHandle" ∧ yX12_vow.cls ≠ "java/lang/invoke/VarHandle" ∧ (parseMethodDescriptor yX12_vow.desc).map (fun d => d.parameters.length) = some 2 := by decide +kernel
theorem fy_X12_ways : yX12_ways.cls ≠ "java/lang/invoke/MethodHandle" ∧ yX12_ways.cls ≠ "java/lang/invoke/VarHandle" ∧ (parseMethodDescriptor yX12_ways.desc).map (fun d => d.parameters.length) = some 2 := by decide +kernel
theorem fy_X12_wears : yX12_wears.cls ≠ "java/lang/invoke/MethodHandle" ∧ yX12_wears.cls ≠ "java/lang/invoke/VarHandle" ∧ (parseMethodDescriptor yX12_wears.desc).map (fun d => d.parameters.length) = some 1 := by decide +kernel
theorem fy_X12_who : yX12_who.cls ≠ "java/lang/invoke/MethodHandle" ∧ yX12_who.cls ≠ "java/lang/invoke/VarHandle" ∧ (parseMethodDescriptor yX12_who.desc).map (fun d => d.parameters.length) = some 2 := by decide +kernel
theorem fy_X12_whole : yX12_whole.cls ≠ "java/lang/invoke/MethodHandle" ∧ yX12_whole.cls ≠ "java/lang/invoke/VarHandle" ∧ (parseMethodDescriptor yX12_whole.desc).map (fun d => d.parameters.length) = some 1 := by decide +kernel
theorem fy_X12_would : yX12_would.cls ≠ "java/lang/invoke/MethodHandle" ∧ yX12_would.cls ≠ "java/lang/invoke/VarHandle" ∧ (parseMethodDescriptor yX12_would.desc).map (fun d => d.parameters.length) = some 2 := by decide +kernel
set_option maxRecDepth 100000 in
def f_L_law_b1760 (xs : Nat → Int32) (Ls : Nat) (B : Nat × Nat) (K23 : Nat → Nat → Nat → Int32 → jZ → jI → jL → Prop) (v1 : Nat) (v2 : Nat) (v3 : Nat) (v4 : Int32) (Z : jZ) (I : jI) (L : jL) : Prop := (∀ x1 : Int32, x1 = v4 + 6 → K23 v1 v2 v3 x1 Z I L)
set_option maxHeartbeats 4000000 in
set_option maxRecDepth 100000 in
theorem m_L_law_b1760 {G : jG} {Z0 : jZ} {xs : Nat → Int32} {Ls b k9 n9 sa sb : Nat} {B : Nat × Nat} {Z5 : jZ} (E : jE G cL_law RL (Cond.arrayClass .byte :: jT) 8 (some .boolean) room_1 jRL) (hX : va_X b Ls xs (gS G) (gS G).heap ∧ b < (gS G).heap.size ∧ ¬ gA G b) (hV : jV (gA G) (gS G) (gS G).heap) (hU : jU sa sb (gA G) (gS G) (gS G).heap) (hl0 : (gL G).stackTraces = false) (hb9 : k9 + 27 + (B.1 - jcz Z5) ≤ 601024) (hn9 : n9 + 600 + (B.2 - jsz Z5) ≤ 7293034) (K23 : Nat → Nat → Nat → Int32 → jZ → jI → jL → Prop) (hK23 : ∀ (v1 : Nat) (v2 : Nat) (v3 : Nat) (v4 : Int32) (Z : jZ) (I : jI) (L : jL), SH Z → jext Z0 Z → jle Z5 Z → jin B Z → jk Z v1 11 → jk Z v2 12 → jk Z v3 15 → K23 v1 v2 v3 v4 Z I L → jJ G 8 23 [(0, .ref b), (1, .ref v1), (2, .ref v2), (3, .ref v3), (4, .int v4)] [] Z I L (k9 + (jcz Z - jcz Z5) + 27) (n9 + (jsz Z - jsz Z5) + 600)) (v1 : Nat) (v2 : Nat) (v3 : Nat) (v4 : Int32) (Z : jZ) (I : jI) (L : jL) (hZ : SH Z) (hx : jext Z0 Z) (hc : jle Z5 Z) (hb : jin B Z) (kv1 : jk Z v1 11) (kv2 : jk Z v2 12) (kv3 : jk Z v3 15) (h : f_L_law_b1760 xs Ls B K23 v1 v2 v3 v4 Z I L) : jJ G 8 1760 [(0, .ref b), (1, .ref v1), (2, .ref v2), (3, .ref v3), (4, .int v4)] [] Z I L (k9 + (jcz Z - jcz Z5) + 27) (n9 + (jsz Z - jsz Z5) + 600) := by
  unfold f_L_law_b1760 at h
  obtain ⟨x1, ex1⟩ : ∃ y : Int32, y = v4 + 6 := ⟨_, rfl⟩
  have h := h x1 ex1
  refine j_iinc E x1 [(4, .int x1), (0, .ref b), (1, .ref v1), (2, .ref v2), (3, .ref v3)] dL_law_1760 4 rfl (by rw [ex1]; rfl) (by decide) rfl ?_
  refine j_goto E 23 dL_law_1763 (by decide) ?_
  refine j_sub [1, 2, 3, 4, 0] rfl ?_
  refine j_widen (k9 := k9 + (jcz Z - jcz Z5) + 27) (n9 := n9 + (jsz Z - jsz Z5) + 600) (by show k9 + (jcz Z - jcz Z5) + 27 ≤ _; omega) (by show n9 + (jsz Z - jsz Z5) + 600 ≤ _; omega) ?_
  exact hK23 v1 v2 v3 x1 Z I L hZ hx hc hb kv1 kv2 kv3 h
set_option maxRecDepth 100000 in
def f_L_law_b244 (xs : Nat → Int32) (Ls : Nat) (B : Nat × Nat) (K23 : Nat → Nat → Nat → Int32 → jZ → jI → jL → Prop) (v1 : Nat) (v2 : Nat) (v3 : Nat) (v4 : Int32) (Z : jZ) (I : jI) (L : jL) : Prop := (vp_in (v4 + (1 : Int32)) Ls ∧ (f_X11_sign v1 (xs (v4 + (1 : Int32)).toNatClampNeg) Z I L (fun r9 I5 L6 => (vp_in (v4 + (1 : Int32)) Ls ∧ (f_X12_sign v2 (xs (v4 + (1 : Int32)).toNatClampNeg) Z I5 L6 (fun r17 I13 L14 => f_L_law_b1760 xs Ls B K23 v1 v2 v3 v4 Z I13 L14))))))
set_option maxHeartbeats 4000000 in
set_option maxRecDepth 100000 in
theorem m_L_law_b244 {G : jG} {Z0 : jZ} {xs : Nat → Int32} {Ls b k9 n9 sa sb : Nat} {B : Nat × Nat} {Z5 : jZ} (E : jE G cL_law RL (Cond.arrayClass .byte :: jT) 8 (some .boolean) room_1 jRL) (hX : va_X b Ls xs (gS G) (gS G).heap ∧ b < (gS G).heap.size ∧ ¬ gA G b) (hV : jV (gA G) (gS G) (gS G).heap) (hU : jU sa sb (gA G) (gS G) (gS G).heap) (hl0 : (gL G).stackTraces = false) (hb9 : k9 + 27 + (B.1 - jcz Z5) ≤ 601024) (hn9 : n9 + 600 + (B.2 - jsz Z5) ≤ 7293034) (K23 : Nat → Nat → Nat → Int32 → jZ → jI → jL → Prop) (hK23 : ∀ (v1 : Nat) (v2 : Nat) (v3 : Nat) (v4 : Int32) (Z : jZ) (I : jI) (L : jL), SH Z → jext Z0 Z → jle Z5 Z → jin B Z → jk Z v1 11 → jk Z v2 12 → jk Z v3 15 → K23 v1 v2 v3 v4 Z I L → jJ G 8 23 [(0, .ref b), (1, .ref v1), (2, .ref v2), (3, .ref v3), (4, .int v4)] [] Z I L (k9 + (jcz Z - jcz Z5) + 27) (n9 + (jsz Z - jsz Z5) + 600)) (v1 : Nat) (v2 : Nat) (v3 : Nat) (v4 : Int32) (Z : jZ) (I : jI) (L : jL) (hZ : SH Z) (hx : jext Z0 Z) (hc : jle Z5 Z) (hb : jin B Z) (kv1 : jk Z v1 11) (kv2 : jk Z v2 12) (kv3 : jk Z v3 15) (h : f_L_law_b244 xs Ls B K23 v1 v2 v3 v4 Z I L) : jJ G 8 244 [(0, .ref b), (1, .ref v1), (2, .ref v2), (3, .ref v3), (4, .int v4)] [] Z I L (k9 + (jcz Z - jcz Z5) + 0) (n9 + (jsz Z - jsz Z5) + 0) := by
  unfold f_L_law_b244 at h
  refine j_aload_n E dL_law_244 1 rfl ?_
  refine j_aload_n E dL_law_245 0 rfl ?_
  refine j_iload E dL_law_246 4 rfl ?_
  refine j_iconst E (v := 1) dL_law_248 (by decide) ?_
  refine j_iadd E dL_law_249 ?_
  obtain ⟨o2, h⟩ := h
  refine j_sld E hX.1 hX.2.1 hX.2.2 o2 dL_law_250 ?_
  refine j_callV E [.int (xs (v4 + (1 : Int32)).toNatClampNeg)] [] (c_X11_sign (gL G) (gD G) (gY G) v1 (xs (v4 + (1 : Int32)).toNatClampNeg) Z I L _ hZ kv1 h) (gwV W_1210 W_1211 W_1212 W_40 W_1209) rfl ⟨rfl, fy_X11_sign⟩ ⟨by decide, by decide⟩ (c := 11) rfl (by decide) kv1 rfl rfl (Nat.le_of_ble_eq_true rfl) ⟨by show k9 + (jcz Z - jcz Z5) + 0 + 0 ≤ 601024; have := hb.1; omega, by show n9 + (jsz Z - jsz Z5) + 0 + 0 ≤ 7293034; have := hb.2; omega⟩ dL_law_251 (fun v3 Z4 I5 L6 q7 => ?_)
  obtain ⟨rfl, r9, rfl, h⟩ := q7
  show jJ G 8 254 [(0, .ref b), (1, .ref v1), (2, .ref v2), (3, .ref v3), (4, .int v4)] [.int r9] Z I5 L6 (k9 + (jcz Z - jcz Z5) + 0) (n9 + (jsz Z - jsz Z5) + 0)
  refine j_pop E dL_law_254 rfl ?_
  refine j_aload_n E dL_law_255 2 rfl ?_
  refine j_aload_n E dL_law_256 0 rfl ?_
  refine j_iload E dL_law_257 4 rfl ?_
  refine j_iconst E (v := 1) dL_law_259 (by decide) ?_
  refine j_iadd E dL_law_260 ?_
  obtain ⟨o10, h⟩ := h
  refine j_sld E hX.1 hX.2.1 hX.2.2 o10 dL_law_261 ?_
  refine j_callV E [.int (xs (v4 + (1 : Int32)).toNatClampNeg)] [] (c_X12_sign (gL G) (gD G) (gY G) v2 (xs (v4 + (1 : Int32)).toNatClampNeg) Z I5 L6 _ hZ kv2 h) (gwV W_1214 W_1215 W_1216 W_695 W_1213) rfl ⟨rfl, fy_X12_sign⟩ ⟨by decide, by decide⟩ (c := 12) rfl (by decide) kv2 rfl rfl (Nat.le_of_ble_eq_true rfl) ⟨by show k9 + (jcz Z - jcz Z5) + 0 + 0 ≤ 601024; have := hb.1; omega, by show n9 + (jsz Z - jsz Z5) + 0 + 0 ≤ 7293034; have := hb.2; omega⟩ dL_law_262 (fun v11 Z12 I13 L14 q15 => ?_)
  obtain ⟨rfl, r17, rfl, h⟩ := q15
  show jJ G 8 265 [(0, .ref b), (1, .ref v1), (2, .ref v2), (3, .ref v3), (4, .int v4)] [.int r17] Z I13 L14 (k9 + (jcz Z - jcz Z5) + 0) (n9 + (jsz Z - jsz Z5) + 0)
  refine j_pop E dL_law_265 rfl ?_
  refine j_goto E 1760 dL_law_266 (by decide) ?_
  refine j_sub [0, 1, 2, 3, 4] rfl ?_
  refine j_widen (k9 := k9 + (jcz Z - jcz Z5) + 27) (n9 := n9 + (jsz Z - jsz Z5) + 600) (by show k9 + (jcz Z - jcz Z5) + 0 ≤ _; omega) (by show n9 + (jsz Z - jsz Z5) + 0 ≤ _; omega) ?_
  exact m_L_law_b1760 E hX hV hU hl0 hb9 hn9 K23 hK23 v1 v2 v3 v4 Z I13 L14 hZ hx hc hb kv1 kv2 kv3 h
set_option maxRecDepth 100000 in
def f_L_law_b269 (xs : Nat → Int32) (Ls : Nat) (B : Nat × Nat) (K23 : Nat → Nat → Nat → Int32 → jZ → jI → jL → Prop) (v1 : Nat) (v2 : Nat) (v3 : Nat) (v4 : Int32) (Z : jZ) (I : jI) (L : jL) : Prop := (vp_in (v4 + (1 : Int32)) Ls ∧ (f_X11_end v1 (xs (v4 + (1 : Int32)).toNatClampNeg) Z I L (fun r25 I21 L22 => (vp_in (v4 + (1 : Int32)) Ls ∧ (f_X12_end v2 (xs (v4 + (1 : Int32)).toNatClampNeg) Z I21 L22 (fun r33 I29 L30 => f_L_law_b1760 xs Ls B K23 v1 v2 v3 v4 Z I29 L30))))))
set_option maxHeartbeats 4000000 in
set_option maxRecDepth 100000 in
theorem m_L_law_b269 {G : jG} {Z0 : jZ} {xs : Nat → Int32} {Ls b k9 n9 sa sb : Nat} {B : Nat × Nat} {Z5 : jZ} (E : jE G cL_law RL (Cond.arrayClass .byte :: jT) 8 (some .boolean) room_1 jRL) (hX : va_X b Ls xs (gS G) (gS G).heap ∧ b < (gS G).heap.size ∧ ¬ gA G b) (hV : jV (gA G) (gS G) (gS G).heap) (hU : jU sa sb (gA G) (gS G) (gS G).heap) (hl0 : (gL G).stackTraces = false) (hb9 : k9 + 27 + (B.1 - jcz Z5) ≤ 601024) (hn9 : n9 + 600 + (B.2 - jsz Z5) ≤ 7293034) (K23 : Nat → Nat → Nat → Int32 → jZ → jI → jL → Prop) (hK23 : ∀ (v1 : Nat) (v2 : Nat) (v3 : Nat) (v4 : Int32) (Z : jZ) (I : jI) (L : jL), SH Z → jext Z0 Z → jle Z5 Z → jin B Z → jk Z v1 11 → jk Z v2 12 → jk Z v3 15 → K23 v1 v2 v3 v4 Z I L → jJ G 8 23 [(0, .ref b), (1, .ref v1), (2, .ref v2), (3, .ref v3), (4, .int v4)] [] Z I L (k9 + (jcz Z - jcz Z5) + 27) (n9 + (jsz Z - jsz Z5) + 600)) (v1 : Nat) (v2 : Nat) (v3 : Nat) (v4 : Int32) (Z : jZ) (I : jI) (L : jL) (hZ : SH Z) (hx : jext Z0 Z) (hc : jle Z5 Z) (hb : jin B Z) (kv1 : jk Z v1 11) (kv2 : jk Z v2 12) (kv3 : jk Z v3 15) (h : f_L_law_b269 xs Ls B K23 v1 v2 v3 v4 Z I L) : jJ G 8 269 [(0, .ref b), (1, .ref v1), (2, .ref v2), (3, .ref v3), (4, .int v4)] [] Z I L (k9 + (jcz Z - jcz Z5) + 0) (n9 + (jsz Z - jsz Z5) + 0) := by
  unfold f_L_law_b269 at h
  refine j_aload_n E dL_law_269 1 rfl ?_
  refine j_aload_n E dL_law_270 0 rfl ?_
  refine j_iload E dL_law_271 4 rfl ?_
  refine j_iconst E (v := 1) dL_law_273 (by decide) ?_
  refine j_iadd E dL_law_274 ?_
  obtain ⟨o18, h⟩ := h
  refine j_sld E hX.1 hX.2.1 hX.2.2 o18 dL_law_275 ?_
  refine j_callV E [.int (xs (v4 + (1 : Int32)).toNatClampNeg)] [] (c_X11_end (gL G) (gD G) (gY G) v1 (xs (v4 + (1 : Int32)).toNatClampNeg) Z I L _ hZ kv1 h) (gwV W_1218 W_1219 W_1220 W_40 W_1217) rfl ⟨rfl, fy_X11_end⟩ ⟨by decide, by decide⟩ (c := 11) rfl (by decide) kv1 rfl rfl (Nat.le_of_ble_eq_true rfl) ⟨by show k9 + (jcz Z - jcz Z5) + 0 + 0 ≤ 601024; have := hb.1; omega, by show n9 + (jsz Z - jsz Z5) + 0 + 0 ≤ 7293034; have := hb.2; omega⟩ dL_law_276 (fun v19 Z20 I21 L22 q23 => ?_)
  obtain ⟨rfl, r25, rfl, zr25, h⟩ := q23
  show jJ G 8 279 [(0, .ref b), (1, .ref v1), (2, .ref v2), (3, .ref v3), (4, .int v4)] [.int r25] Z I21 L22 (k9 + (jcz Z - jcz Z5) + 0) (n9 + (jsz Z - jsz Z5) + 0)
  refine j_pop E dL_law_279 rfl ?_
  refine j_aload_n E dL_law_280 2 rfl ?_
  refine j_aload_n E dL_law_281 0 rfl ?_
  refine j_iload E dL_law_282 4 rfl ?_
  refine j_iconst E (v := 1) dL_law_284 (by decide) ?_
  refine j_iadd E dL_law_285 ?_
  obtain ⟨o26, h⟩ := h
  refine j_sld E hX.1 hX.2.1 hX.2.2 o26 dL_law_286 ?_
  refine j_callV E [.int (xs (v4 + (1 : Int32)).toNatClampNeg)] [] (c_X12_end (gL G) (gD G) (gY G) v2 (xs (v4 + (1 : Int32)).toNatClampNeg) Z I21 L22 _ hZ kv2 h) (gwV W_1222 W_1223 W_1224 W_695 W_1221) rfl ⟨rfl, fy_X12_end⟩ ⟨by decide, by decide⟩ (c := 12) rfl (by decide) kv2 rfl rfl (Nat.le_of_ble_eq_true rfl) ⟨by show k9 + (jcz Z - jcz Z5) + 0 + 0 ≤ 601024; have := hb.1; omega, by show n9 + (jsz Z - jsz Z5) + 0 + 0 ≤ 7293034; have := hb.2; omega⟩ dL_law_287 (fun v27 Z28 I29 L30 q31 => ?_)
  obtain ⟨rfl, r33, rfl, zr33, h⟩ := q31
  show jJ G 8 290 [(0, .ref b), (1, .ref v1), (2, .ref v2), (3, .ref v3), (4, .int v4)] [.int r33] Z I29 L30 (k9 + (jcz Z - jcz Z5) + 0) (n9 + (jsz Z - jsz Z5) + 0)
  refine j_pop E dL_law_290 rfl ?_
  refine j_goto E 1760 dL_law_291 (by decide) ?_
  refine j_sub [0, 1, 2, 3, 4] rfl ?_
  refine j_widen (k9 := k9 + (jcz Z - jcz Z5) + 27) (n9 := n9 + (jsz Z - jsz Z5) + 600) (by show k9 + (jcz Z - jcz Z5) + 0 ≤ _; omega) (by show n9 + (jsz Z - jsz Z5) + 0 ≤ _; omega) ?_
  exact m_L_law_b1760 E hX hV hU hl0 hb9 hn9 K23 hK23 v1 v2 v3 v4 Z I29 L30 hZ hx hc hb kv1 kv2 kv3 h
set_option maxRecDepth 100000 in
def f_L_law_b294 (xs : Nat → Int32) (Ls : Nat) (B : Nat × Nat) (K23 : Nat → Nat → Nat → Int32 → jZ → jI → jL → Prop) (v1 : Nat) (v2 : Nat) (v3 : Nat) (v4 : Int32) (Z : jZ) (I : jI) (L : jL) : Prop := (f_X11_stairs v1 Z I L (fun r40 I36 L37 => (f_X12_stairs B v2 Z I36 L37 (fun r47 Z42 I43 L44 => f_L_law_b1760 xs Ls B K23 v1 v2 v3 v4 Z42 I43 L44))))
set_option maxHeartbeats 4000000 in
set_option maxRecDepth 100000 in
theorem m_L_law_b294 {G : jG} {Z0 : jZ} {xs : Nat → Int32} {Ls b k9 n9 sa sb : Nat} {B : Nat × Nat} {Z5 : jZ} (E : jE G cL_law RL (Cond.arrayClass .byte :: jT) 8 (some .boolean) room_1 jRL) (hX : va_X b Ls xs (gS G) (gS G).heap ∧ b < (gS G).heap.size ∧ ¬ gA G b) (hV : jV (gA G) (gS G) (gS G).heap) (hU : jU sa sb (gA G) (gS G) (gS G).heap) (hl0 : (gL G).stackTraces = false) (hb9 : k9 + 27 + (B.1 - jcz Z5) ≤ 601024) (hn9 : n9 + 600 + (B.2 - jsz Z5) ≤ 7293034) (K23 : Nat → Nat → Nat → Int32 → jZ → jI → jL → Prop) (hK23 : ∀ (v1 : Nat) (v2 : Nat) (v3 : Nat) (v4 : Int32) (Z : jZ) (I : jI) (L : jL), SH Z → jext Z0 Z → jle Z5 Z → jin B Z → jk Z v1 11 → jk Z v2 12 → jk Z v3 15 → K23 v1 v2 v3 v4 Z I L → jJ G 8 23 [(0, .ref b), (1, .ref v1), (2, .ref v2), (3, .ref v3), (4, .int v4)] [] Z I L (k9 + (jcz Z - jcz Z5) + 27) (n9 + (jsz Z - jsz Z5) + 600)) (v1 : Nat) (v2 : Nat) (v3 : Nat) (v4 : Int32) (Z : jZ) (I : jI) (L : jL) (hZ : SH Z) (hx : jext Z0 Z) (hc : jle Z5 Z) (hb : jin B Z) (kv1 : jk Z v1 11) (kv2 : jk Z v2 12) (kv3 : jk Z v3 15) (h : f_L_law_b294 xs Ls B K23 v1 v2 v3 v4 Z I L) : jJ G 8 294 [(0, .ref b), (1, .ref v1), (2, .ref v2), (3, .ref v3), (4, .int v4)] [] Z I L (k9 + (jcz Z - jcz Z5) + 0) (n9 + (jsz Z - jsz Z5) + 0) := by
  unfold f_L_law_b294 at h
  refine j_aload_n E dL_law_294 1 rfl ?_
  refine j_callV E [] [] (c_X11_stairs (gL G) (gD G) (gY G) v1 Z I L _ hZ kv1 h) (gwV W_1226 W_1227 W_1228 W_40 W_1225) rfl ⟨rfl, fy_X11_stairs⟩ ⟨by decide, by decide⟩ (c := 11) rfl (by decide) kv1 rfl rfl (Nat.le_of_ble_eq_true rfl) ⟨by show k9 + (jcz Z - jcz Z5) + 0 + 0 ≤ 601024; have := hb.1; omega, by show n9 + (jsz Z - jsz Z5) + 0 + 0 ≤ 7293034; have := hb.2; omega⟩ dL_law_295 (fun v34 Z35 I36 L37 q38 => ?_)
  obtain ⟨rfl, r40, rfl, h⟩ := q38
  show jJ G 8 298 [(0, .ref b), (1, .ref v1), (2, .ref v2), (3, .ref v3), (4, .int v4)] [.int r40] Z I36 L37 (k9 + (jcz Z - jcz Z5) + 0) (n9 + (jsz Z - jsz Z5) + 0)
  refine j_pop E dL_law_298 rfl ?_
  refine j_aload_n E dL_law_299 2 rfl ?_
  refine ju_callV E [] [] (c_X12_stairs (gL G) (gD G) (gY G) B v2 Z I36 L37 _ hZ hb kv2 h) (gwV W_1230 W_1231 W_1232 W_695 W_1229) rfl ⟨rfl, fy_X12_stairs⟩ ⟨by decide, by decide⟩ (c := 12) rfl (by decide) kv2 rfl rfl (Nat.le_of_ble_eq_true rfl) ⟨by show k9 + (jcz Z - jcz Z5) + 0 + (B.1 - jcz Z) ≤ 601024; have := hb.1; have := hc.1; omega, by show n9 + (jsz Z - jsz Z5) + 0 + (B.2 - jsz Z) ≤ 7293034; have := hb.2; have := hc.2; omega⟩ dL_law_300 (fun v41 Z42 I43 L44 q45 j46 => ?_)
  refine j_kn (k' := k9 + (jcz Z42 - jcz Z5) + 0) (n' := n9 + (jsz Z42 - jsz Z5) + 0) (by have := hc.1; have := j46.1; omega) (by have := hc.2; have := j46.2; omega) ?_
  have hc := jle_trans hc j46
  obtain ⟨yZ42, hZ42, hbZ42, r47, rfl, h⟩ := q45
  have hZ := hZ42
  have hx : jext Z0 Z42 := jext_trans hx yZ42
  have hb := hbZ42
  have k48 := (yZ42 _ _ kv1).1
  have k49 := (yZ42 _ _ kv2).1
  have k50 := (yZ42 _ _ kv3).1
  show jJ G 8 303 [(0, .ref b), (1, .ref v1), (2, .ref v2), (3, .ref v3), (4, .int v4)] [.int r47] Z42 I43 L44 (k9 + (jcz Z42 - jcz Z5) + 0) (n9 + (jsz Z42 - jsz Z5) + 0)
  refine j_pop E dL_law_303 rfl ?_
  refine j_goto E 1760 dL_law_304 (by decide) ?_
  refine j_sub [0, 1, 2, 3, 4] rfl ?_
  refine j_widen (k9 := k9 + (jcz Z42 - jcz Z5) + 27) (n9 := n9 + (jsz Z42 - jsz Z5) + 600) (by show k9 + (jcz Z42 - jcz Z5) + 0 ≤ _; omega) (by show n9 + (jsz Z42 - jsz Z5) + 0 ≤ _; omega) ?_
  exact m_L_law_b1760 E hX hV hU hl0 hb9 hn9 K23 hK23 v1 v2 v3 v4 Z42 I43 L44 hZ hx hc hb k48 k49 k50 h
set_option maxRecDepth 100000 in
def f_L_law_b307 (xs : Nat → Int32) (Ls : Nat) (B : Nat × Nat) (K23 : Nat → Nat → Nat → Int32 → jZ → jI → jL → Prop) (v1 : Nat) (v2 : Nat) (v3 : Nat) (v4 : Int32) (Z : jZ) (I : jI) (L : jL) : Prop := (vp_in (v4 + (1 : Int32)) Ls ∧ (fs_X11_law v1 (xs (v4 + (1 : Int32)).toNatClampNeg) Z I L (fun r58 I54 L55 => (vp_in (v4 + (1 : Int32)) Ls ∧ (f_X12_law B v2 (xs (v4 + (1 : Int32)).toNatClampNeg) Z I54 L55 (fun r66 Z61 I62 L63 => f_L_law_b1760 xs Ls B K23 v1 v2 v3 v4 Z61 I62 L63))))))
set_option maxHeartbeats 4000000 in
set_option maxRecDepth 100000 in
theorem m_L_law_b307 {G : jG} {Z0 : jZ} {xs : Nat → Int32} {Ls b k9 n9 sa sb : Nat} {B : Nat × Nat} {Z5 : jZ} (E : jE G cL_law RL (Cond.arrayClass .byte :: jT) 8 (some .boolean) room_1 jRL) (hX : va_X b Ls xs (gS G) (gS G).heap ∧ b < (gS G).heap.size ∧ ¬ gA G b) (hV : jV (gA G) (gS G) (gS G).heap) (hU : jU sa sb (gA G) (gS G) (gS G).heap) (hl0 : (gL G).stackTraces = false) (hb9 : k9 + 27 + (B.1 - jcz Z5) ≤ 601024) (hn9 : n9 + 600 + (B.2 - jsz Z5) ≤ 7293034) (K23 : Nat → Nat → Nat → Int32 → jZ → jI → jL → Prop) (hK23 : ∀ (v1 : Nat) (v2 : Nat) (v3 : Nat) (v4 : Int32) (Z : jZ) (I : jI) (L : jL), SH Z → jext Z0 Z → jle Z5 Z → jin B Z → jk Z v1 11 → jk Z v2 12 → jk Z v3 15 → K23 v1 v2 v3 v4 Z I L → jJ G 8 23 [(0, .ref b), (1, .ref v1), (2, .ref v2), (3, .ref v3), (4, .int v4)] [] Z I L (k9 + (jcz Z - jcz Z5) + 27) (n9 + (jsz Z - jsz Z5) + 600)) (v1 : Nat) (v2 : Nat) (v3 : Nat) (v4 : Int32) (Z : jZ) (I : jI) (L : jL) (hZ : SH Z) (hx : jext Z0 Z) (hc : jle Z5 Z) (hb : jin B Z) (kv1 : jk Z v1 11) (kv2 : jk Z v2 12) (kv3 : jk Z v3 15) (h : f_L_law_b307 xs Ls B K23 v1 v2 v3 v4 Z I L) : jJ G 8 307 [(0, .ref b), (1, .ref v1), (2, .ref v2), (3, .ref v3), (4, .int v4)] [] Z I L (k9 + (jcz Z - jcz Z5) + 0) (n9 + (jsz Z - jsz Z5) + 0) := by
  unfold f_L_law_b307 at h
  refine j_aload_n E dL_law_307 1 rfl ?_
  refine j_aload_n E dL_law_308 0 rfl ?_
  refine j_iload E dL_law_309 4 rfl ?_
  refine j_iconst E (v := 1) dL_law_311 (by decide) ?_
  refine j_iadd E dL_law_312 ?_
  obtain ⟨o51, h⟩ := h
  refine j_sld E hX.1 hX.2.1 hX.2.2 o51 dL_law_313 ?_
  refine j_callVS E hU [.int (xs (v4 + (1 : Int32)).toNatClampNeg)] [] (cs_X11_law (gL G) (gD G) (gY G) v1 (xs (v4 + (1 : Int32)).toNatClampNeg) Z I L _ hZ kv1 h) (gwV W_1234 W_1235 W_1236 W_40 W_1233) rfl ⟨rfl, fy_X11_law⟩ ⟨by decide, by decide⟩ (c := 11) rfl (by decide) kv1 rfl rfl (Nat.le_of_ble_eq_true rfl) ⟨by show k9 + (jcz Z - jcz Z5) + 0 + 0 ≤ 601024; have := hb.1; omega, by show n9 + (jsz Z - jsz Z5) + 0 + 0 ≤ 7293034; have := hb.2; omega⟩ dL_law_314 (fun v52 Z53 I54 L55 q56 => ?_)
  obtain ⟨rfl, r58, rfl, h⟩ := q56
  show jJ G 8 317 [(0, .ref b), (1, .ref v1), (2, .ref v2), (3, .ref v3), (4, .int v4)] [.int r58] Z I54 L55 (k9 + (jcz Z - jcz Z5) + 0) (n9 + (jsz Z - jsz Z5) + 0)
  refine j_pop E dL_law_317 rfl ?_
  refine j_aload_n E dL_law_318 2 rfl ?_
  refine j_aload_n E dL_law_319 0 rfl ?_
  refine j_iload E dL_law_320 4 rfl ?_
  refine j_iconst E (v := 1) dL_law_322 (by decide) ?_
  refine j_iadd E dL_law_323 ?_
  obtain ⟨o59, h⟩ := h
  refine j_sld E hX.1 hX.2.1 hX.2.2 o59 dL_law_324 ?_
  refine ju_callV E [.int (xs (v4 + (1 : Int32)).toNatClampNeg)] [] (c_X12_law (gL G) (gD G) (gY G) B v2 (xs (v4 + (1 : Int32)).toNatClampNeg) Z I54 L55 _ hZ hb kv2 h) (gwV W_1238 W_1239 W_1240 W_695 W_1237) rfl ⟨rfl, fy_X12_law⟩ ⟨by decide, by decide⟩ (c := 12) rfl (by decide) kv2 rfl rfl (Nat.le_of_ble_eq_true rfl) ⟨by show k9 + (jcz Z - jcz Z5) + 0 + (B.1 - jcz Z) ≤ 601024; have := hb.1; have := hc.1; omega, by show n9 + (jsz Z - jsz Z5) + 0 + (B.2 - jsz Z) ≤ 7293034; have := hb.2; have := hc.2; omega⟩ dL_law_325 (fun v60 Z61 I62 L63 q64 j65 => ?_)
  refine j_kn (k' := k9 + (jcz Z61 - jcz Z5) + 0) (n' := n9 + (jsz Z61 - jsz Z5) + 0) (by have := hc.1; have := j65.1; omega) (by have := hc.2; have := j65.2; omega) ?_
  have hc := jle_trans hc j65
  obtain ⟨yZ61, hZ61, hbZ61, r66, rfl, h⟩ := q64
  have hZ := hZ61
  have hx : jext Z0 Z61 := jext_trans hx yZ61
  have hb := hbZ61
  have k67 := (yZ61 _ _ kv1).1
  have k68 := (yZ61 _ _ kv2).1
  have k69 := (yZ61 _ _ kv3).1
  show jJ G 8 328 [(0, .ref b), (1, .ref v1), (2, .ref v2), (3, .ref v3), (4, .int v4)] [.int r66] Z61 I62 L63 (k9 + (jcz Z61 - jcz Z5) + 0) (n9 + (jsz Z61 - jsz Z5) + 0)
  refine j_pop E dL_law_328 rfl ?_
  refine j_goto E 1760 dL_law_329 (by decide) ?_
  refine j_sub [0, 1, 2, 3, 4] rfl ?_
  refine j_widen (k9 := k9 + (jcz Z61 - jcz Z5) + 27) (n9 := n9 + (jsz Z61 - jsz Z5) + 600) (by show k9 + (jcz Z61 - jcz Z5) + 0 ≤ _; omega) (by show n9 + (jsz Z61 - jsz Z5) + 0 ≤ _; omega) ?_
  exact m_L_law_b1760 E hX hV hU hl0 hb9 hn9 K23 hK23 v1 v2 v3 v4 Z61 I62 L63 hZ hx hc hb k67 k68 k69 h
set_option maxRecDepth 100000 in
def f_L_law_b397 (xs : Nat → Int32) (Ls : Nat) (B : Nat × Nat) (K23 : Nat → Nat → Nat → Int32 → jZ → jI → jL → Prop) (v1 : Nat) (v2 : Nat) (v3 : Nat) (v4 : Int32) (Z : jZ) (I : jI) (L : jL) : Prop := f_L_law_b1760 xs Ls B K23 v1 v2 v3 v4 Z I L
set_option maxHeartbeats 4000000 in
set_option maxRecDepth 100000 in
theorem m_L_law_b397 {G : jG} {Z0 : jZ} {xs : Nat → Int32} {Ls b k9 n9 sa sb : Nat} {B : Nat × Nat} {Z5 : jZ} (E : jE G cL_law RL (Cond.arrayClass .byte :: jT) 8 (some .boolean) room_1 jRL) (hX : va_X b Ls xs (gS G) (gS G).heap ∧ b < (gS G).heap.size ∧ ¬ gA G b) (hV : jV (gA G) (gS G) (gS G).heap) (hU : jU sa sb (gA G) (gS G) (gS G).heap) (hl0 : (gL G).stackTraces = false) (hb9 : k9 + 27 + (B.1 - jcz Z5) ≤ 601024) (hn9 : n9 + 600 + (B.2 - jsz Z5) ≤ 7293034) (K23 : Nat → Nat → Nat → Int32 → jZ → jI → jL → Prop) (hK23 : ∀ (v1 : Nat) (v2 : Nat) (v3 : Nat) (v4 : Int32) (Z : jZ) (I : jI) (L : jL), SH Z → jext Z0 Z → jle Z5 Z → jin B Z → jk Z v1 11 → jk Z v2 12 → jk Z v3 15 → K23 v1 v2 v3 v4 Z I L → jJ G 8 23 [(0, .ref b), (1, .ref v1), (2, .ref v2), (3, .ref v3), (4, .int v4)] [] Z I L (k9 + (jcz Z - jcz Z5) + 27) (n9 + (jsz Z - jsz Z5) + 600)) (v1 : Nat) (v2 : Nat) (v3 : Nat) (v4 : Int32) (Z : jZ) (I : jI) (L : jL) (hZ : SH Z) (hx : jext Z0 Z) (hc : jle Z5 Z) (hb : jin B Z) (kv1 : jk Z v1 11) (kv2 : jk Z v2 12) (kv3 : jk Z v3 15) (h : f_L_law_b397 xs Ls B K23 v1 v2 v3 v4 Z I L) : jJ G 8 397 [(0, .ref b), (1, .ref v1), (2, .ref v2), (3, .ref v3), (4, .int v4)] [] Z I L (k9 + (jcz Z - jcz Z5) + 27) (n9 + (jsz Z - jsz Z5) + 600) := by
  unfold f_L_law_b397 at h
  refine j_goto E 1760 dL_law_397 (by decide) ?_
  refine j_sub [0, 1, 2, 3, 4] rfl ?_
  refine j_widen (k9 := k9 + (jcz Z - jcz Z5) + 27) (n9 := n9 + (jsz Z - jsz Z5) + 600) (by show k9 + (jcz Z - jcz Z5) + 27 ≤ _; omega) (by show n9 + (jsz Z - jsz Z5) + 600 ≤ _; omega) ?_
  exact m_L_law_b1760 E hX hV hU hl0 hb9 hn9 K23 hK23 v1 v2 v3 v4 Z I L hZ hx hc hb kv1 kv2 kv3 h
set_option maxRecDepth 100000 in
def f_L_law_b332 (xs : Nat → Int32) (Ls : Nat) (B : Nat × Nat) (K23 : Nat → Nat → Nat → Int32 → jZ → jI → jL → Prop) (v1 : Nat) (v2 : Nat) (v3 : Nat) (v4 : Int32) (Z : jZ) (I : jI) (L : jL) : Prop := (vp_in (v4 + (1 : Int32)) Ls ∧ (vp_in (v4 + (2 : Int32)) Ls ∧ (f_L_step v1 (xs (v4 + (1 : Int32)).toNatClampNeg) (xs (v4 + (2 : Int32)).toNatClampNeg) v3 Z I L (fun r78 I74 L75 => (vp_in (v4 + (1 : Int32)) Ls ∧ (vp_in (v4 + (2 : Int32)) Ls ∧ (f_X12_step v2 (xs (v4 + (1 : Int32)).toNatClampNeg) (xs (v4 + (2 : Int32)).toNatClampNeg) Z I74 L75 (fun r87 I83 L84 => (f_X12_thrown v2 Z I83 L84 (fun r94 I90 L91 => ((r94 = r78 → ((¬ r78 = 0 → f_L_law_b397 xs Ls B K23 v1 v2 v3 v4 Z I90 L91) ∧ (r78 = 0 → (vp_in (0 : Int32) (jlen Z v3) ∧ (((lg_cmp (L91 v3 (0 : Int32).toNatClampNeg) (r87.toInt64)) = 0 → f_L_law_b397 xs Ls B K23 v1 v2 v3 v4 Z I90 L91) ∧ (¬ ((lg_cmp (L91 v3 (0 : Int32).toNatClampNeg) (r87.toInt64)) = 0) → False)))))) ∧ (¬ (r94 = r78) → False))))))))))))
set_option maxHeartbeats 4000000 in
set_option maxRecDepth 100000 in
theorem m_L_law_b332 {G : jG} {Z0 : jZ} {xs : Nat → Int32} {Ls b k9 n9 sa sb : Nat} {B : Nat × Nat} {Z5 : jZ} (E : jE G cL_law RL (Cond.arrayClass .byte :: jT) 8 (some .boolean) room_1 jRL) (hX : va_X b Ls xs (gS G) (gS G).heap ∧ b < (gS G).heap.size ∧ ¬ gA G b) (hV : jV (gA G) (gS G) (gS G).heap) (hU : jU sa sb (gA G) (gS G) (gS G).heap) (hl0 : (gL G).stackTraces = false) (hb9 : k9 + 27 + (B.1 - jcz Z5) ≤ 601024) (hn9 : n9 + 600 + (B.2 - jsz Z5) ≤ 7293034) (K23 : Nat → Nat → Nat → Int32 → jZ → jI → jL → Prop) (hK23 : ∀ (v1 : Nat) (v2 : Nat) (v3 : Nat) (v4 : Int32) (Z : jZ) (I : jI) (L : jL), SH Z → jext Z0 Z → jle Z5 Z → jin B Z → jk Z v1 11 → jk Z v2 12 → jk Z v3 15 → K23 v1 v2 v3 v4 Z I L → jJ G 8 23 [(0, .ref b), (1, .ref v1), (2, .ref v2), (3, .ref v3), (4, .int v4)] [] Z I L (k9 + (jcz Z - jcz Z5) + 27) (n9 + (jsz Z - jsz Z5) + 600)) (v1 : Nat) (v2 : Nat) (v3 : Nat) (v4 : Int32) (Z : jZ) (I : jI) (L : jL) (hZ : SH Z) (hx : jext Z0 Z) (hc : jle Z5 Z) (hb : jin B Z) (kv1 : jk Z v1 11) (kv2 : jk Z v2 12) (kv3 : jk Z v3 15) (h : f_L_law_b332 xs Ls B K23 v1 v2 v3 v4 Z I L) : jJ G 8 332 [(0, .ref b), (1, .ref v1), (2, .ref v2), (3, .ref v3), (4, .int v4)] [] Z I L (k9 + (jcz Z - jcz Z5) + 0) (n9 + (jsz Z - jsz Z5) + 0) := by
  unfold f_L_law_b332 at h
  refine j_aload_n E dL_law_332 1 rfl ?_
  refine j_aload_n E dL_law_333 0 rfl ?_
  refine j_iload E dL_law_334 4 rfl ?_
  refine j_iconst E (v := 1) dL_law_336 (by decide) ?_
  refine j_iadd E dL_law_337 ?_
  obtain ⟨o70, h⟩ := h
  refine j_sld E hX.1 hX.2.1 hX.2.2 o70 dL_law_338 ?_
  refine j_aload_n E dL_law_339 0 rfl ?_
  refine j_iload E dL_law_340 4 rfl ?_
  refine j_iconst E (v := 2) dL_law_342 (by decide) ?_
  refine j_iadd E dL_law_343 ?_
  obtain ⟨o71, h⟩ := h
  refine j_sld E hX.1 hX.2.1 hX.2.2 o71 dL_law_344 ?_
  refine j_aload_n E dL_law_345 3 rfl ?_
  refine j_callSH E hV [.ref v1, .int (xs (v4 + (1 : Int32)).toNatClampNeg), .int (xs (v4 + (2 : Int32)).toNatClampNeg), .ref v3] [] (c_L_step (gL G) hl0 (gD G) (gY G) v1 (xs (v4 + (1 : Int32)).toNatClampNeg) (xs (v4 + (2 : Int32)).toNatClampNeg) v3 Z I L _ hZ kv1 kv3 h) (gwS W_1242 W_1243 W_1241 W_1244) rfl fy_L_step ⟨by decide, by decide⟩ rfl rfl (Nat.le_of_ble_eq_true rfl) ⟨by show k9 + (jcz Z - jcz Z5) + 0 + 1 ≤ 601024; have := hb.1; omega, by show n9 + (jsz Z - jsz Z5) + 0 + 6 ≤ 7293034; have := hb.2; omega⟩ dL_law_346 (fun v72 Z73 I74 L75 q76 => ?_)
  obtain ⟨rfl, r78, rfl, h⟩ := q76
  show jJ G 8 349 [(0, .ref b), (1, .ref v1), (2, .ref v2), (3, .ref v3), (4, .int v4)] [.int r78] Z I74 L75 (k9 + (jcz Z - jcz Z5) + 1) (n9 + (jsz Z - jsz Z5) + 6)
  refine j_istore E 5 [(5, .int r78), (0, .ref b), (1, .ref v1), (2, .ref v2), (3, .ref v3), (4, .int v4)] dL_law_349 (by decide) rfl ?_
  refine j_aload_n E dL_law_351 3 rfl ?_
  refine j_aload_n E dL_law_352 1 rfl ?_
  refine j_iload E dL_law_353 5 rfl ?_
  refine j_iconst E (v := 1) dL_law_355 (by decide) ?_
  refine j_iadd E dL_law_356 ?_
  obtain ⟨o79, h⟩ := h
  refine j_sld E hX.1 hX.2.1 hX.2.2 o79 dL_law_357 ?_
  refine j_aload_n E dL_law_358 1 rfl ?_
  refine j_iload E dL_law_359 5 rfl ?_
  refine j_iconst E (v := 2) dL_law_361 (by decide) ?_
  refine j_iadd E dL_law_362 ?_
  obtain ⟨o80, h⟩ := h
  refine j_sld E hX.1 hX.2.1 hX.2.2 o80 dL_law_363 ?_
  refine j_callV E [.int (xs (v4 + (1 : Int32)).toNatClampNeg), .int (xs (v4 + (2 : Int32)).toNatClampNeg)] [] (c_X12_step (gL G) (gD G) (gY G) v2 (xs (v4 + (1 : Int32)).toNatClampNeg) (xs (v4 + (2 : Int32)).toNatClampNeg) Z I74 L75 _ hZ kv2 h) (gwV W_1246 W_1247 W_1248 W_695 W_1245) rfl ⟨rfl, fy_X12_step⟩ ⟨by decide, by decide⟩ (c := 12) rfl (by decide) kv2 rfl rfl (Nat.le_of_ble_eq_true rfl) ⟨by show k9 + (jcz Z - jcz Z5) + 1 + 0 ≤ 601024; have := hb.1; omega, by show n9 + (jsz Z - jsz Z5) + 6 + 0 ≤ 7293034; have := hb.2; omega⟩ dL_law_364 (fun v81 Z82 I83 L84 q85 => ?_)
  obtain ⟨rfl, r87, rfl, h⟩ := q85
  show jJ G 8 367 [(5, .int r78), (0, .ref b), (1, .ref v1), (2, .ref v2), (3, .ref v3), (4, .int v4)] [.int r87] Z I83 L84 (k9 + (jcz Z - jcz Z5) + 1) (n9 + (jsz Z - jsz Z5) + 6)
  refine j_istore E 6 [(6, .int r87), (5, .int r78), (0, .ref b), (1, .ref v1), (2, .ref v2), (3, .ref v3), (4, .int v4)] dL_law_367 (by decide) rfl ?_
  refine j_aload_n E dL_law_369 4 rfl ?_
  refine j_callV E [] [] (c_X12_thrown (gL G) (gD G) (gY G) v2 Z I83 L84 _ hZ kv2 h) (gwV W_1250 W_1251 W_1252 W_695 W_1249) rfl ⟨rfl, fy_X12_thrown⟩ ⟨by decide, by decide⟩ (c := 12) rfl (by decide) kv2 rfl rfl (Nat.le_of_ble_eq_true rfl) ⟨by show k9 + (jcz Z - jcz Z5) + 1 + 0 ≤ 601024; have := hb.1; omega, by show n9 + (jsz Z - jsz Z5) + 6 + 0 ≤ 7293034; have := hb.2; omega⟩ dL_law_370 (fun v88 Z89 I90 L91 q92 => ?_)
  obtain ⟨rfl, r94, rfl, h⟩ := q92
  show jJ G 8 373 [(6, .int r87), (5, .int r78), (0, .ref b), (1, .ref v1), (2, .ref v2), (3, .ref v3), (4, .int v4)] [.int r94] Z I90 L91 (k9 + (jcz Z - jcz Z5) + 1) (n9 + (jsz Z - jsz Z5) + 6)
  refine j_iload E dL_law_373 1 rfl ?_
  refine j_icmp_eq E 380 dL_law_375 (by decide) (fun c95 => ?_) (fun c95 => ?_)
  · have h := h.1 c95
    refine j_iload E dL_law_380 1 rfl ?_
    refine j_if_ne E 397 dL_law_382 (by decide) (fun c96 => ?_) (fun c96 => ?_)
    · have h := h.1 c96
      refine j_sub [2, 3, 4, 5, 6] rfl ?_
      refine j_widen (k9 := k9 + (jcz Z - jcz Z5) + 27) (n9 := n9 + (jsz Z - jsz Z5) + 600) (by show k9 + (jcz Z - jcz Z5) + 1 ≤ _; omega) (by show n9 + (jsz Z - jsz Z5) + 6 ≤ _; omega) ?_
      exact m_L_law_b397 E hX hV hU hl0 hb9 hn9 K23 hK23 v1 v2 v3 v4 Z I90 L91 hZ hx hc hb kv1 kv2 kv3 h
    · have h := h.2 c96
      refine j_aload_n E dL_law_385 5 rfl ?_
      refine j_iconst E (v := 0) dL_law_386 (by decide) ?_
      obtain ⟨o97, h⟩ := h
      refine j_lald E kv3 o97 dL_law_387 ?_
      refine j_iload E dL_law_388 0 rfl ?_
      refine j_i2l E dL_law_390 ?_
      refine j_lcmp E dL_law_391 ?_
      refine j_if_eq E 397 dL_law_392 (by decide) (fun c98 => ?_) (fun c98 => ?_)
      · have h := h.1 c98
        refine j_sub [2, 3, 4, 5, 6] rfl ?_
        refine j_widen (k9 := k9 + (jcz Z - jcz Z5) + 27) (n9 := n9 + (jsz Z - jsz Z5) + 600) (by show k9 + (jcz Z - jcz Z5) + 1 ≤ _; omega) (by show n9 + (jsz Z - jsz Z5) + 6 ≤ _; omega) ?_
        exact m_L_law_b397 E hX hV hU hl0 hb9 hn9 K23 hK23 v1 v2 v3 v4 Z I90 L91 hZ hx hc hb kv1 kv2 kv3 h
      · have h := h.2 c98
        refine j_iconst E (v := 0) dL_law_395 (by decide) ?_
        exact h.elim
  · have h := h.2 c95
    refine j_iconst E (v := 0) dL_law_378 (by decide) ?_
    exact h.elim
set_option maxRecDepth 100000 in
def f_L_law_b400 (xs : Nat → Int32) (Ls : Nat) (B : Nat × Nat) (K23 : Nat → Nat → Nat → Int32 → jZ → jI → jL → Prop) (v1 : Nat) (v2 : Nat) (v3 : Nat) (v4 : Int32) (Z : jZ) (I : jI) (L : jL) : Prop := (vp_in (v4 + (1 : Int32)) Ls ∧ (vp_in (v4 + (2 : Int32)) Ls ∧ (vp_in (v4 + (3 : Int32)) Ls ∧ (f_X11_set v1 (xs (v4 + (1 : Int32)).toNatClampNeg) (xs (v4 + (2 : Int32)).toNatClampNeg) (xs (v4 + (3 : Int32)).toNatClampNeg) Z I L (fun r108 I104 L105 => (vp_in (v4 + (1 : Int32)) Ls ∧ (vp_in (v4 + (2 : Int32)) Ls ∧ (vp_in (v4 + (3 : Int32)) Ls ∧ (f_X12_set v2 (xs (v4 + (1 : Int32)).toNatClampNeg) (xs (v4 + (2 : Int32)).toNatClampNeg) (xs (v4 + (3 : Int32)).toNatClampNeg) Z I104 L105 (fun r118 I114 L115 => f_L_law_b1760 xs Ls B K23 v1 v2 v3 v4 Z I114 L115))))))))))
set_option maxHeartbeats 4000000 in
set_option maxRecDepth 100000 in
theorem m_L_law_b400 {G : jG} {Z0 : jZ} {xs : Nat → Int32} {Ls b k9 n9 sa sb : Nat} {B : Nat × Nat} {Z5 : jZ} (E : jE G cL_law RL (Cond.arrayClass .byte :: jT) 8 (some .boolean) room_1 jRL) (hX : va_X b Ls xs (gS G) (gS G).heap ∧ b < (gS G).heap.size ∧ ¬ gA G b) (hV : jV (gA G) (gS G) (gS G).heap) (hU : jU sa sb (gA G) (gS G) (gS G).heap) (hl0 : (gL G).stackTraces = false) (hb9 : k9 + 27 + (B.1 - jcz Z5) ≤ 601024) (hn9 : n9 + 600 + (B.2 - jsz Z5) ≤ 7293034) (K23 : Nat → Nat → Nat → Int32 → jZ → jI → jL → Prop) (hK23 : ∀ (v1 : Nat) (v2 : Nat) (v3 : Nat) (v4 : Int32) (Z : jZ) (I : jI) (L : jL), SH Z → jext Z0 Z → jle Z5 Z → jin B Z → jk Z v1 11 → jk Z v2 12 → jk Z v3 15 → K23 v1 v2 v3 v4 Z I L → jJ G 8 23 [(0, .ref b), (1, .ref v1), (2, .ref v2), (3, .ref v3), (4, .int v4)] [] Z I L (k9 + (jcz Z - jcz Z5) + 27) (n9 + (jsz Z - jsz Z5) + 600)) (v1 : Nat) (v2 : Nat) (v3 : Nat) (v4 : Int32) (Z : jZ) (I : jI) (L : jL) (hZ : SH Z) (hx : jext Z0 Z) (hc : jle Z5 Z) (hb : jin B Z) (kv1 : jk Z v1 11) (kv2 : jk Z v2 12) (kv3 : jk Z v3 15) (h : f_L_law_b400 xs Ls B K23 v1 v2 v3 v4 Z I L) : jJ G 8 400 [(0, .ref b), (1, .ref v1), (2, .ref v2), (3, .ref v3), (4, .int v4)] [] Z I L (k9 + (jcz Z - jcz Z5) + 0) (n9 + (jsz Z - jsz Z5) + 0) := by
  unfold f_L_law_b400 at h
  refine j_aload_n E dL_law_400 1 rfl ?_
  refine j_aload_n E dL_law_401 0 rfl ?_
  refine j_iload E dL_law_402 4 rfl ?_
  refine j_iconst E (v := 1) dL_law_404 (by decide) ?_
  refine j_iadd E dL_law_405 ?_
  obtain ⟨o99, h⟩ := h
  refine j_sld E hX.1 hX.2.1 hX.2.2 o99 dL_law_406 ?_
  refine j_aload_n E dL_law_407 0 rfl ?_
  refine j_iload E dL_law_408 4 rfl ?_
  refine j_iconst E (v := 2) dL_law_410 (by decide) ?_
  refine j_iadd E dL_law_411 ?_
  obtain ⟨o100, h⟩ := h
  refine j_sld E hX.1 hX.2.1 hX.2.2 o100 dL_law_412 ?_
  refine j_aload_n E dL_law_413 0 rfl ?_
  refine j_iload E dL_law_414 4 rfl ?_
  refine j_iconst E (v := 3) dL_law_416 (by decide) ?_
  refine j_iadd E dL_law_417 ?_
  obtain ⟨o101, h⟩ := h
  refine j_sld E hX.1 hX.2.1 hX.2.2 o101 dL_law_418 ?_
  refine j_callV E [.int (xs (v4 + (1 : Int32)).toNatClampNeg), .int (xs (v4 + (2 : Int32)).toNatClampNeg), .int (xs (v4 + (3 : Int32)).toNatClampNeg)] [] (c_X11_set (gL G) (gD G) (gY G) v1 (xs (v4 + (1 : Int32)).toNatClampNeg) (xs (v4 + (2 : Int32)).toNatClampNeg) (xs (v4 + (3 : Int32)).toNatClampNeg) Z I L _ hZ kv1 h) (gwV W_1254 W_1255 W_1256 W_40 W_1253) rfl ⟨rfl, fy_X11_set⟩ ⟨by decide, by decide⟩ (c := 11) rfl (by decide) kv1 rfl rfl (Nat.le_of_ble_eq_true rfl) ⟨by show k9 + (jcz Z - jcz Z5) + 0 + 0 ≤ 601024; have := hb.1; omega, by show n9 + (jsz Z - jsz Z5) + 0 + 0 ≤ 7293034; have := hb.2; omega⟩ dL_law_419 (fun v102 Z103 I104 L105 q106 => ?_)
  obtain ⟨rfl, r108, rfl, h⟩ := q106
  show jJ G 8 422 [(0, .ref b), (1, .ref v1), (2, .ref v2), (3, .ref v3), (4, .int v4)] [.int r108] Z I104 L105 (k9 + (jcz Z - jcz Z5) + 0) (n9 + (jsz Z - jsz Z5) + 0)
  refine j_pop E dL_law_422 rfl ?_
  refine j_aload_n E dL_law_423 2 rfl ?_
  refine j_aload_n E dL_law_424 0 rfl ?_
  refine j_iload E dL_law_425 4 rfl ?_
  refine j_iconst E (v := 1) dL_law_427 (by decide) ?_
  refine j_iadd E dL_law_428 ?_
  obtain ⟨o109, h⟩ := h
  refine j_sld E hX.1 hX.2.1 hX.2.2 o109 dL_law_429 ?_
  refine j_aload_n E dL_law_430 0 rfl ?_
  refine j_iload E dL_law_431 4 rfl ?_
  refine j_iconst E (v := 2) dL_law_433 (by decide) ?_
  refine j_iadd E dL_law_434 ?_
  obtain ⟨o110, h⟩ := h
  refine j_sld E hX.1 hX.2.1 hX.2.2 o110 dL_law_435 ?_
  refine j_aload_n E dL_law_436 0 rfl ?_
  refine j_iload E dL_law_437 4 rfl ?_
  refine j_iconst E (v := 3) dL_law_439 (by decide) ?_
  refine j_iadd E dL_law_440 ?_
  obtain ⟨o111, h⟩ := h
  refine j_sld E hX.1 hX.2.1 hX.2.2 o111 dL_law_441 ?_
  refine j_callV E [.int (xs (v4 + (1 : Int32)).toNatClampNeg), .int (xs (v4 + (2 : Int32)).toNatClampNeg), .int (xs (v4 + (3 : Int32)).toNatClampNeg)] [] (c_X12_set (gL G) (gD G) (gY G) v2 (xs (v4 + (1 : Int32)).toNatClampNeg) (xs (v4 + (2 : Int32)).toNatClampNeg) (xs (v4 + (3 : Int32)).toNatClampNeg) Z I104 L105 _ hZ kv2 h) (gwV W_1258 W_1259 W_1260 W_695 W_1257) rfl ⟨rfl, fy_X12_set⟩ ⟨by decide, by decide⟩ (c := 12) rfl (by decide) kv2 rfl rfl (Nat.le_of_ble_eq_true rfl) ⟨by show k9 + (jcz Z - jcz Z5) + 0 + 0 ≤ 601024; have := hb.1; omega, by show n9 + (jsz Z - jsz Z5) + 0 + 0 ≤ 7293034; have := hb.2; omega⟩ dL_law_442 (fun v112 Z113 I114 L115 q116 => ?_)
  obtain ⟨rfl, r118, rfl, h⟩ := q116
  show jJ G 8 445 [(0, .ref b), (1, .ref v1), (2, .ref v2), (3, .ref v3), (4, .int v4)] [.int r118] Z I114 L115 (k9 + (jcz Z - jcz Z5) + 0) (n9 + (jsz Z - jsz Z5) + 0)
  refine j_pop E dL_law_445 rfl ?_
  refine j_goto E 1760 dL_law_446 (by decide) ?_
  refine j_sub [0, 1, 2, 3, 4] rfl ?_
  refine j_widen (k9 := k9 + (jcz Z - jcz Z5) + 27) (n9 := n9 + (jsz Z - jsz Z5) + 600) (by show k9 + (jcz Z - jcz Z5) + 0 ≤ _; omega) (by show n9 + (jsz Z - jsz Z5) + 0 ≤ _; omega) ?_
  exact m_L_law_b1760 E hX hV hU hl0 hb9 hn9 K23 hK23 v1 v2 v3 v4 Z I114 L115 hZ hx hc hb kv1 kv2 kv3 h
set_option maxRecDepth 100000 in
def f_L_law_b449 (xs : Nat → Int32) (Ls : Nat) (B : Nat × Nat) (K23 : Nat → Nat → Nat → Int32 → jZ → jI → jL → Prop) (v1 : Nat) (v2 : Nat) (v3 : Nat) (v4 : Int32) (Z : jZ) (I : jI) (L : jL) : Prop := (vp_in (v4 + (1 : Int32)) Ls ∧ (vp_in (v4 + (2 : Int32)) Ls ∧ (vp_in (v4 + (3 : Int32)) Ls ∧ (vp_in (v4 + (4 : Int32)) Ls ∧ (f_X11_sheet v1 (xs (v4 + (1 : Int32)).toNatClampNeg) (xs (v4 + (2 : Int32)).toNatClampNeg) (xs (v4 + (3 : Int32)).toNatClampNeg) (xs (v4 + (4 : Int32)).toNatClampNeg) Z I L (fun r129 I125 L126 => (vp_in (v4 + (1 : Int32)) Ls ∧ (vp_in (v4 + (2 : Int32)) Ls ∧ (vp_in (v4 + (3 : Int32)) Ls ∧ (vp_in (v4 + (4 : Int32)) Ls ∧ (f_X12_sheet v2 (xs (v4 + (1 : Int32)).toNatClampNeg) (xs (v4 + (2 : Int32)).toNatClampNeg) (xs (v4 + (3 : Int32)).toNatClampNeg) (xs (v4 + (4 : Int32)).toNatClampNeg) Z I125 L126 (fun r140 I136 L137 => f_L_law_b1760 xs Ls B K23 v1 v2 v3 v4 Z I136 L137))))))))))))
set_option maxHeartbeats 4000000 in
set_option maxRecDepth 100000 in
theorem m_L_law_b449 {G : jG} {Z0 : jZ} {xs : Nat → Int32} {Ls b k9 n9 sa sb : Nat} {B : Nat × Nat} {Z5 : jZ} (E : jE G cL_law RL (Cond.arrayClass .byte :: jT) 8 (some .boolean) room_1 jRL) (hX : va_X b Ls xs (gS G) (gS G).heap ∧ b < (gS G).heap.size ∧ ¬ gA G b) (hV : jV (gA G) (gS G) (gS G).heap) (hU : jU sa sb (gA G) (gS G) (gS G).heap) (hl0 : (gL G).stackTraces = false) (hb9 : k9 + 27 + (B.1 - jcz Z5) ≤ 601024) (hn9 : n9 + 600 + (B.2 - jsz Z5) ≤ 7293034) (K23 : Nat → Nat → Nat → Int32 → jZ → jI → jL → Prop) (hK23 : ∀ (v1 : Nat) (v2 : Nat) (v3 : Nat) (v4 : Int32) (Z : jZ) (I : jI) (L : jL), SH Z → jext Z0 Z → jle Z5 Z → jin B Z → jk Z v1 11 → jk Z v2 12 → jk Z v3 15 → K23 v1 v2 v3 v4 Z I L → jJ G 8 23 [(0, .ref b), (1, .ref v1), (2, .ref v2), (3, .ref v3), (4, .int v4)] [] Z I L (k9 + (jcz Z - jcz Z5) + 27) (n9 + (jsz Z - jsz Z5) + 600)) (v1 : Nat) (v2 : Nat) (v3 : Nat) (v4 : Int32) (Z : jZ) (I : jI) (L : jL) (hZ : SH Z) (hx : jext Z0 Z) (hc : jle Z5 Z) (hb : jin B Z) (kv1 : jk Z v1 11) (kv2 : jk Z v2 12) (kv3 : jk Z v3 15) (h : f_L_law_b449 xs Ls B K23 v1 v2 v3 v4 Z I L) : jJ G 8 449 [(0, .ref b), (1, .ref v1), (2, .ref v2), (3, .ref v3), (4, .int v4)] [] Z I L (k9 + (jcz Z - jcz Z5) + 0) (n9 + (jsz Z - jsz Z5) + 0) := by
  unfold f_L_law_b449 at h
  refine j_aload_n E dL_law_449 1 rfl ?_
  refine j_aload_n E dL_law_450 0 rfl ?_
  refine j_iload E dL_law_451 4 rfl ?_
  refine j_iconst E (v := 1) dL_law_453 (by decide) ?_
  refine j_iadd E dL_law_454 ?_
  obtain ⟨o119, h⟩ := h
  refine j_sld E hX.1 hX.2.1 hX.2.2 o119 dL_law_455 ?_
  refine j_aload_n E dL_law_456 0 rfl ?_
  refine j_iload E dL_law_457 4 rfl ?_
  refine j_iconst E (v := 2) dL_law_459 (by decide) ?_
  refine j_iadd E dL_law_460 ?_
  obtain ⟨o120, h⟩ := h
  refine j_sld E hX.1 hX.2.1 hX.2.2 o120 dL_law_461 ?_
  refine j_aload_n E dL_law_462 0 rfl ?_
  refine j_iload E dL_law_463 4 rfl ?_
  refine j_iconst E (v := 3) dL_law_465 (by decide) ?_
  refine j_iadd E dL_law_466 ?_
  obtain ⟨o121, h⟩ := h
  refine j_sld E hX.1 hX.2.1 hX.2.2 o121 dL_law_467 ?_
  refine j_aload_n E dL_law_468 0 rfl ?_
  refine j_iload E dL_law_469 4 rfl ?_
  refine j_iconst E (v := 4) dL_law_471 (by decide) ?_
  refine j_iadd E dL_law_472 ?_
  obtain ⟨o122, h⟩ := h
  refine j_sld E hX.1 hX.2.1 hX.2.2 o122 dL_law_473 ?_
  refine j_callV E [.int (xs (v4 + (1 : Int32)).toNatClampNeg), .int (xs (v4 + (2 : Int32)).toNatClampNeg), .int (xs (v4 + (3 : Int32)).toNatClampNeg), .int (xs (v4 + (4 : Int32)).toNatClampNeg)] [] (c_X11_sheet (gL G) (gD G) (gY G) v1 (xs (v4 + (1 : Int32)).toNatClampNeg) (xs (v4 + (2 : Int32)).toNatClampNeg) (xs (v4 + (3 : Int32)).toNatClampNeg) (xs (v4 + (4 : Int32)).toNatClampNeg) Z I L _ hZ kv1 h) (gwV W_1262 W_1263 W_1264 W_40 W_1261) rfl ⟨rfl, fy_X11_sheet⟩ ⟨by decide, by decide⟩ (c := 11) rfl (by decide) kv1 rfl rfl (Nat.le_of_ble_eq_true rfl) ⟨by show k9 + (jcz Z - jcz Z5) + 0 + 0 ≤ 601024; have := hb.1; omega, by show n9 + (jsz Z - jsz Z5) + 0 + 0 ≤ 7293034; have := hb.2; omega⟩ dL_law_474 (fun v123 Z124 I125 L126 q127 => ?_)
  obtain ⟨rfl, r129, rfl, h⟩ := q127
  show jJ G 8 477 [(0, .ref b), (1, .ref v1), (2, .ref v2), (3, .ref v3), (4, .int v4)] [.int r129] Z I125 L126 (k9 + (jcz Z - jcz Z5) + 0) (n9 + (jsz Z - jsz Z5) + 0)
  refine j_pop E dL_law_477 rfl ?_
  refine j_aload_n E dL_law_478 2 rfl ?_
  refine j_aload_n E dL_law_479 0 rfl ?_
  refine j_iload E dL_law_480 4 rfl ?_
  refine j_iconst E (v := 1) dL_law_482 (by decide) ?_
  refine j_iadd E dL_law_483 ?_
  obtain ⟨o130, h⟩ := h
  refine j_sld E hX.1 hX.2.1 hX.2.2 o130 dL_law_484 ?_
  refine j_aload_n E dL_law_485 0 rfl ?_
  refine j_iload E dL_law_486 4 rfl ?_
  refine j_iconst E (v := 2) dL_law_488 (by decide) ?_
  refine j_iadd E dL_law_489 ?_
  obtain ⟨o131, h⟩ := h
  refine j_sld E hX.1 hX.2.1 hX.2.2 o131 dL_law_490 ?_
  refine j_aload_n E dL_law_491 0 rfl ?_
  refine j_iload E dL_law_492 4 rfl ?_
  refine j_iconst E (v := 3) dL_law_494 (by decide) ?_
  refine j_iadd E dL_law_495 ?_
  obtain ⟨o132, h⟩ := h
  refine j_sld E hX.1 hX.2.1 hX.2.2 o132 dL_law_496 ?_
  refine j_aload_n E dL_law_497 0 rfl ?_
  refine j_iload E dL_law_498 4 rfl ?_
  refine j_iconst E (v := 4) dL_law_500 (by decide) ?_
  refine j_iadd E dL_law_501 ?_
  obtain ⟨o133, h⟩ := h
  refine j_sld E hX.1 hX.2.1 hX.2.2 o133 dL_law_502 ?_
  refine j_callV E [.int (xs (v4 + (1 : Int32)).toNatClampNeg), .int (xs (v4 + (2 : Int32)).toNatClampNeg), .int (xs (v4 + (3 : Int32)).toNatClampNeg), .int (xs (v4 + (4 : Int32)).toNatClampNeg)] [] (c_X12_sheet (gL G) (gD G) (gY G) v2 (xs (v4 + (1 : Int32)).toNatClampNeg) (xs (v4 + (2 : Int32)).toNatClampNeg) (xs (v4 + (3 : Int32)).toNatClampNeg) (xs (v4 + (4 : Int32)).toNatClampNeg) Z I125 L126 _ hZ kv2 h) (gwV W_1266 W_1267 W_1268 W_695 W_1265) rfl ⟨rfl, fy_X12_sheet⟩ ⟨by decide, by decide⟩ (c := 12) rfl (by decide) kv2 rfl rfl (Nat.le_of_ble_eq_true rfl) ⟨by show k9 + (jcz Z - jcz Z5) + 0 + 0 ≤ 601024; have := hb.1; omega, by show n9 + (jsz Z - jsz Z5) + 0 + 0 ≤ 7293034; have := hb.2; omega⟩ dL_law_503 (fun v134 Z135 I136 L137 q138 => ?_)
  obtain ⟨rfl, r140, rfl, h⟩ := q138
  show jJ G 8 506 [(0, .ref b), (1, .ref v1), (2, .ref v2), (3, .ref v3), (4, .int v4)] [.int r140] Z I136 L137 (k9 + (jcz Z - jcz Z5) + 0) (n9 + (jsz Z - jsz Z5) + 0)
  refine j_pop E dL_law_506 rfl ?_
  refine j_goto E 1760 dL_law_507 (by decide) ?_
  refine j_sub [0, 1, 2, 3, 4] rfl ?_
  refine j_widen (k9 := k9 + (jcz Z - jcz Z5) + 27) (n9 := n9 + (jsz Z - jsz Z5) + 600) (by show k9 + (jcz Z - jcz Z5) + 0 ≤ _; omega) (by show n9 + (jsz Z - jsz Z5) + 0 ≤ _; omega) ?_
  exact m_L_law_b1760 E hX hV hU hl0 hb9 hn9 K23 hK23 v1 v2 v3 v4 Z I136 L137 hZ hx hc hb kv1 kv2 kv3 h
set_option maxRecDepth 100000 in
def f_L_law_b568 (xs : Nat → Int32) (Ls : Nat) (B : Nat × Nat) (K23 : Nat → Nat → Nat → Int32 → jZ → jI → jL → Prop) (v1 : Nat) (v2 : Nat) (v3 : Nat) (v4 : Int32) (s0 : Nat) (s1 : Int32) (s2 : Int32) (s3 : Int32) (Z : jZ) (I : jI) (L : jL) : Prop := (f_X12_feud s0 s1 s2 s3 Z I L (fun r147 I143 L144 => f_L_law_b1760 xs Ls B K23 v1 v2 v3 v4 Z I143 L144))
set_option maxHeartbeats 4000000 in
set_option maxRecDepth 100000 in
theorem m_L_law_b568 {G : jG} {Z0 : jZ} {xs : Nat → Int32} {Ls b k9 n9 sa sb : Nat} {B : Nat × Nat} {Z5 : jZ} (E : jE G cL_law RL (Cond.arrayClass .byte :: jT) 8 (some .boolean) room_1 jRL) (hX : va_X b Ls xs (gS G) (gS G).heap ∧ b < (gS G).heap.size ∧ ¬ gA G b) (hV : jV (gA G) (gS G) (gS G).heap) (hU : jU sa sb (gA G) (gS G) (gS G).heap) (hl0 : (gL G).stackTraces = false) (hb9 : k9 + 27 + (B.1 - jcz Z5) ≤ 601024) (hn9 : n9 + 600 + (B.2 - jsz Z5) ≤ 7293034) (K23 : Nat → Nat → Nat → Int32 → jZ → jI → jL → Prop) (hK23 : ∀ (v1 : Nat) (v2 : Nat) (v3 : Nat) (v4 : Int32) (Z : jZ) (I : jI) (L : jL), SH Z → jext Z0 Z → jle Z5 Z → jin B Z → jk Z v1 11 → jk Z v2 12 → jk Z v3 15 → K23 v1 v2 v3 v4 Z I L → jJ G 8 23 [(0, .ref b), (1, .ref v1), (2, .ref v2), (3, .ref v3), (4, .int v4)] [] Z I L (k9 + (jcz Z - jcz Z5) + 27) (n9 + (jsz Z - jsz Z5) + 600)) (v1 : Nat) (v2 : Nat) (v3 : Nat) (v4 : Int32) (s0 : Nat) (s1 : Int32) (s2 : Int32) (s3 : Int32) (Z : jZ) (I : jI) (L : jL) (hZ : SH Z) (hx : jext Z0 Z) (hc : jle Z5 Z) (hb : jin B Z) (kv1 : jk Z v1 11) (kv2 : jk Z v2 12) (kv3 : jk Z v3 15) (ks0 : jk Z s0 12) (h : f_L_law_b568 xs Ls B K23 v1 v2 v3 v4 s0 s1 s2 s3 Z I L) : jJ G 8 568 [(0, .ref b), (1, .ref v1), (2, .ref v2), (3, .ref v3), (4, .int v4)] [.int s3, .int s2, .int s1, .ref s0] Z I L (k9 + (jcz Z - jcz Z5) + 27) (n9 + (jsz Z - jsz Z5) + 600) := by
  unfold f_L_law_b568 at h
  refine j_callV E [.int s1, .int s2, .int s3] [] (c_X12_feud (gL G) (gD G) (gY G) s0 s1 s2 s3 Z I L _ hZ ks0 h) (gwV W_1270 W_1271 W_1272 W_695 W_1269) rfl ⟨rfl, fy_X12_feud⟩ ⟨by decide, by decide⟩ (c := 12) rfl (by decide) ks0 rfl rfl (Nat.le_of_ble_eq_true rfl) ⟨by show k9 + (jcz Z - jcz Z5) + 27 + 0 ≤ 601024; have := hb.1; omega, by show n9 + (jsz Z - jsz Z5) + 600 + 0 ≤ 7293034; have := hb.2; omega⟩ dL_law_568 (fun v141 Z142 I143 L144 q145 => ?_)
  obtain ⟨rfl, r147, rfl, zr147, h⟩ := q145
  show jJ G 8 571 [(0, .ref b), (1, .ref v1), (2, .ref v2), (3, .ref v3), (4, .int v4)] [.int r147] Z I143 L144 (k9 + (jcz Z - jcz Z5) + 27) (n9 + (jsz Z - jsz Z5) + 600)
  refine j_pop E dL_law_571 rfl ?_
  refine j_goto E 1760 dL_law_572 (by decide) ?_
  refine j_sub [0, 1, 2, 3, 4] rfl ?_
  refine j_widen (k9 := k9 + (jcz Z - jcz Z5) + 27) (n9 := n9 + (jsz Z - jsz Z5) + 600) (by show k9 + (jcz Z - jcz Z5) + 27 ≤ _; omega) (by show n9 + (jsz Z - jsz Z5) + 600 ≤ _; omega) ?_
  exact m_L_law_b1760 E hX hV hU hl0 hb9 hn9 K23 hK23 v1 v2 v3 v4 Z I143 L144 hZ hx hc hb kv1 kv2 kv3 h
set_option maxRecDepth 100000 in
def f_L_law_b537 (xs : Nat → Int32) (Ls : Nat) (B : Nat × Nat) (K23 : Nat → Nat → Nat → Int32 → jZ → jI → jL → Prop) (v1 : Nat) (v2 : Nat) (v3 : Nat) (v4 : Int32) (s0 : Nat) (s1 : Int32) (s2 : Int32) (s3 : Int32) (Z : jZ) (I : jI) (L : jL) : Prop := (f_X11_feud s0 s1 s2 s3 Z I L (fun r154 I150 L151 => (vp_in (v4 + (1 : Int32)) Ls ∧ (vp_in (v4 + (2 : Int32)) Ls ∧ (vp_in (v4 + (3 : Int32)) Ls ∧ (((xs (v4 + (3 : Int32)).toNatClampNeg) = 0 → f_L_law_b568 xs Ls B K23 v1 v2 v3 v4 v2 (xs (v4 + (1 : Int32)).toNatClampNeg) (xs (v4 + (2 : Int32)).toNatClampNeg) (0 : Int32) Z I150 L151) ∧ (¬ ((xs (v4 + (3 : Int32)).toNatClampNeg) = 0) → f_L_law_b568 xs Ls B K23 v1 v2 v3 v4 v2 (xs (v4 + (1 : Int32)).toNatClampNeg) (xs (v4 + (2 : Int32)).toNatClampNeg) (1 : Int32) Z I150 L151)))))))
set_option maxHeartbeats 4000000 in
set_option maxRecDepth 100000 in
theorem m_L_law_b537 {G : jG} {Z0 : jZ} {xs : Nat → Int32} {Ls b k9 n9 sa sb : Nat} {B : Nat × Nat} {Z5 : jZ} (E : jE G cL_law RL (Cond.arrayClass .byte :: jT) 8 (some .boolean) room_1 jRL) (hX : va_X b Ls xs (gS G) (gS G).heap ∧ b < (gS G).heap.size ∧ ¬ gA G b) (hV : jV (gA G) (gS G) (gS G).heap) (hU : jU sa sb (gA G) (gS G) (gS G).heap) (hl0 : (gL G).stackTraces = false) (hb9 : k9 + 27 + (B.1 - jcz Z5) ≤ 601024) (hn9 : n9 + 600 + (B.2 - jsz Z5) ≤ 7293034) (K23 : Nat → Nat → Nat → Int32 → jZ → jI → jL → Prop) (hK23 : ∀ (v1 : Nat) (v2 : Nat) (v3 : Nat) (v4 : Int32) (Z : jZ) (I : jI) (L : jL), SH Z → jext Z0 Z → jle Z5 Z → jin B Z → jk Z v1 11 → jk Z v2 12 → jk Z v3 15 → K23 v1 v2 v3 v4 Z I L → jJ G 8 23 [(0, .ref b), (1, .ref v1), (2, .ref v2), (3, .ref v3), (4, .int v4)] [] Z I L (k9 + (jcz Z - jcz Z5) + 27) (n9 + (jsz Z - jsz Z5) + 600)) (v1 : Nat) (v2 : Nat) (v3 : Nat) (v4 : Int32) (s0 : Nat) (s1 : Int32) (s2 : Int32) (s3 : Int32) (Z : jZ) (I : jI) (L : jL) (hZ : SH Z) (hx : jext Z0 Z) (hc : jle Z5 Z) (hb : jin B Z) (kv1 : jk Z v1 11) (kv2 : jk Z v2 12) (kv3 : jk Z v3 15) (ks0 : jk Z s0 11) (h : f_L_law_b537 xs Ls B K23 v1 v2 v3 v4 s0 s1 s2 s3 Z I L) : jJ G 8 537 [(0, .ref b), (1, .ref v1), (2, .ref v2), (3, .ref v3), (4, .int v4)] [.int s3, .int s2, .int s1, .ref s0] Z I L (k9 + (jcz Z - jcz Z5) + 27) (n9 + (jsz Z - jsz Z5) + 600) := by
  unfold f_L_law_b537 at h
  refine j_callV E [.int s1, .int s2, .int s3] [] (c_X11_feud (gL G) (gD G) (gY G) s0 s1 s2 s3 Z I L _ hZ ks0 h) (gwV W_1274 W_1275 W_1276 W_40 W_1273) rfl ⟨rfl, fy_X11_feud⟩ ⟨by decide, by decide⟩ (c := 11) rfl (by decide) ks0 rfl rfl (Nat.le_of_ble_eq_true rfl) ⟨by show k9 + (jcz Z - jcz Z5) + 27 + 0 ≤ 601024; have := hb.1; omega, by show n9 + (jsz Z - jsz Z5) + 600 + 0 ≤ 7293034; have := hb.2; omega⟩ dL_law_537 (fun v148 Z149 I150 L151 q152 => ?_)
  obtain ⟨rfl, r154, rfl, zr154, h⟩ := q152
  show jJ G 8 540 [(0, .ref b), (1, .ref v1), (2, .ref v2), (3, .ref v3), (4, .int v4)] [.int r154] Z I150 L151 (k9 + (jcz Z - jcz Z5) + 27) (n9 + (jsz Z - jsz Z5) + 600)
  refine j_pop E dL_law_540 rfl ?_
  refine j_aload_n E dL_law_541 2 rfl ?_
  refine j_aload_n E dL_law_542 0 rfl ?_
  refine j_iload E dL_law_543 4 rfl ?_
  refine j_iconst E (v := 1) dL_law_545 (by decide) ?_
  refine j_iadd E dL_law_546 ?_
  obtain ⟨o155, h⟩ := h
  refine j_sld E hX.1 hX.2.1 hX.2.2 o155 dL_law_547 ?_
  refine j_aload_n E dL_law_548 0 rfl ?_
  refine j_iload E dL_law_549 4 rfl ?_
  refine j_iconst E (v := 2) dL_law_551 (by decide) ?_
  refine j_iadd E dL_law_552 ?_
  obtain ⟨o156, h⟩ := h
  refine j_sld E hX.1 hX.2.1 hX.2.2 o156 dL_law_553 ?_
  refine j_aload_n E dL_law_554 0 rfl ?_
  refine j_iload E dL_law_555 4 rfl ?_
  refine j_iconst E (v := 3) dL_law_557 (by decide) ?_
  refine j_iadd E dL_law_558 ?_
  obtain ⟨o157, h⟩ := h
  refine j_sld E hX.1 hX.2.1 hX.2.2 o157 dL_law_559 ?_
  refine j_if_eq E 567 dL_law_560 (by decide) (fun c158 => ?_) (fun c158 => ?_)
  · have h := h.1 c158
    refine j_iconst E (v := 0) dL_law_567 (by decide) ?_
    refine j_sub [0, 1, 2, 3, 4] rfl ?_
    refine j_widen (k9 := k9 + (jcz Z - jcz Z5) + 27) (n9 := n9 + (jsz Z - jsz Z5) + 600) (by show k9 + (jcz Z - jcz Z5) + 27 ≤ _; omega) (by show n9 + (jsz Z - jsz Z5) + 600 ≤ _; omega) ?_
    exact m_L_law_b568 E hX hV hU hl0 hb9 hn9 K23 hK23 v1 v2 v3 v4 v2 (xs (v4 + (1 : Int32)).toNatClampNeg) (xs (v4 + (2 : Int32)).toNatClampNeg) (0 : Int32) Z I150 L151 hZ hx hc hb kv1 kv2 kv3 kv2 h
  · have h := h.2 c158
    refine j_iconst E (v := 1) dL_law_563 (by decide) ?_
    refine j_goto E 568 dL_law_564 (by decide) ?_
    refine j_sub [0, 1, 2, 3, 4] rfl ?_
    refine j_widen (k9 := k9 + (jcz Z - jcz Z5) + 27) (n9 := n9 + (jsz Z - jsz Z5) + 600) (by show k9 + (jcz Z - jcz Z5) + 27 ≤ _; omega) (by show n9 + (jsz Z - jsz Z5) + 600 ≤ _; omega) ?_
    exact m_L_law_b568 E hX hV hU hl0 hb9 hn9 K23 hK23 v1 v2 v3 v4 v2 (xs (v4 + (1 : Int32)).toNatClampNeg) (xs (v4 + (2 : Int32)).toNatClampNeg) (1 : Int32) Z I150 L151 hZ hx hc hb kv1 kv2 kv3 kv2 h
set_option maxRecDepth 100000 in
def f_L_law_b510 (xs : Nat → Int32) (Ls : Nat) (B : Nat × Nat) (K23 : Nat → Nat → Nat → Int32 → jZ → jI → jL → Prop) (v1 : Nat) (v2 : Nat) (v3 : Nat) (v4 : Int32) (Z : jZ) (I : jI) (L : jL) : Prop := (vp_in (v4 + (1 : Int32)) Ls ∧ (vp_in (v4 + (2 : Int32)) Ls ∧ (vp_in (v4 + (3 : Int32)) Ls ∧ (((xs (v4 + (3 : Int32)).toNatClampNeg) = 0 → f_L_law_b537 xs Ls B K23 v1 v2 v3 v4 v1 (xs (v4 + (1 : Int32)).toNatClampNeg) (xs (v4 + (2 : Int32)).toNatClampNeg) (0 : Int32) Z I L) ∧ (¬ ((xs (v4 + (3 : Int32)).toNatClampNeg) = 0) → f_L_law_b537 xs Ls B K23 v1 v2 v3 v4 v1 (xs (v4 + (1 : Int32)).toNatClampNeg) (xs (v4 + (2 : Int32)).toNatClampNeg) (1 : Int32) Z I L)))))
set_option maxHeartbeats 4000000 in
set_option maxRecDepth 100000 in
theorem m_L_law_b510 {G : jG} {Z0 : jZ} {xs : Nat → Int32} {Ls b k9 n9 sa sb : Nat} {B : Nat × Nat} {Z5 : jZ} (E : jE G cL_law RL (Cond.arrayClass .byte :: jT) 8 (some .boolean) room_1 jRL) (hX : va_X b Ls xs (gS G) (gS G).heap ∧ b < (gS G).heap.size ∧ ¬ gA G b) (hV : jV (gA G) (gS G) (gS G).heap) (hU : jU sa sb (gA G) (gS G) (gS G).heap) (hl0 : (gL G).stackTraces = false) (hb9 : k9 + 27 + (B.1 - jcz Z5) ≤ 601024) (hn9 : n9 + 600 + (B.2 - jsz Z5) ≤ 7293034) (K23 : Nat → Nat → Nat → Int32 → jZ → jI → jL → Prop) (hK23 : ∀ (v1 : Nat) (v2 : Nat) (v3 : Nat) (v4 : Int32) (Z : jZ) (I : jI) (L : jL), SH Z → jext Z0 Z → jle Z5 Z → jin B Z → jk Z v1 11 → jk Z v2 12 → jk Z v3 15 → K23 v1 v2 v3 v4 Z I L → jJ G 8 23 [(0, .ref b), (1, .ref v1), (2, .ref v2), (3, .ref v3), (4, .int v4)] [] Z I L (k9 + (jcz Z - jcz Z5) + 27) (n9 + (jsz Z - jsz Z5) + 600)) (v1 : Nat) (v2 : Nat) (v3 : Nat) (v4 : Int32) (Z : jZ) (I : jI) (L : jL) (hZ : SH Z) (hx : jext Z0 Z) (hc : jle Z5 Z) (hb : jin B Z) (kv1 : jk Z v1 11) (kv2 : jk Z v2 12) (kv3 : jk Z v3 15) (h : f_L_law_b510 xs Ls B K23 v1 v2 v3 v4 Z I L) : jJ G 8 510 [(0, .ref b), (1, .ref v1), (2, .ref v2), (3, .ref v3), (4, .int v4)] [] Z I L (k9 + (jcz Z - jcz Z5) + 0) (n9 + (jsz Z - jsz Z5) + 0) := by
  unfold f_L_law_b510 at h
  refine j_aload_n E dL_law_510 1 rfl ?_
  refine j_aload_n E dL_law_511 0 rfl ?_
  refine j_iload E dL_law_512 4 rfl ?_
  refine j_iconst E (v := 1) dL_law_514 (by decide) ?_
  refine j_iadd E dL_law_515 ?_
  obtain ⟨o159, h⟩ := h
  refine j_sld E hX.1 hX.2.1 hX.2.2 o159 dL_law_516 ?_
  refine j_aload_n E dL_law_517 0 rfl ?_
  refine j_iload E dL_law_518 4 rfl ?_
  refine j_iconst E (v := 2) dL_law_520 (by decide) ?_
  refine j_iadd E dL_law_521 ?_
  obtain ⟨o160, h⟩ := h
  refine j_sld E hX.1 hX.2.1 hX.2.2 o160 dL_law_522 ?_
  refine j_aload_n E dL_law_523 0 rfl ?_
  refine j_iload E dL_law_524 4 rfl ?_
  refine j_iconst E (v := 3) dL_law_526 (by decide) ?_
  refine j_iadd E dL_law_527 ?_
  obtain ⟨o161, h⟩ := h
  refine j_sld E hX.1 hX.2.1 hX.2.2 o161 dL_law_528 ?_
  refine j_if_eq E 536 dL_law_529 (by decide) (fun c162 => ?_) (fun c162 => ?_)
  · have h := h.1 c162
    refine j_iconst E (v := 0) dL_law_536 (by decide) ?_
    refine j_sub [0, 1, 2, 3, 4] rfl ?_
    refine j_widen (k9 := k9 + (jcz Z - jcz Z5) + 27) (n9 := n9 + (jsz Z - jsz Z5) + 600) (by show k9 + (jcz Z - jcz Z5) + 0 ≤ _; omega) (by show n9 + (jsz Z - jsz Z5) + 0 ≤ _; omega) ?_
    exact m_L_law_b537 E hX hV hU hl0 hb9 hn9 K23 hK23 v1 v2 v3 v4 v1 (xs (v4 + (1 : Int32)).toNatClampNeg) (xs (v4 + (2 : Int32)).toNatClampNeg) (0 : Int32) Z I L hZ hx hc hb kv1 kv2 kv3 kv1 h
  · have h := h.2 c162
    refine j_iconst E (v := 1) dL_law_532 (by decide) ?_
    refine j_goto E 537 dL_law_533 (by decide) ?_
    refine j_sub [0, 1, 2, 3, 4] rfl ?_
    refine j_widen (k9 := k9 + (jcz Z - jcz Z5) + 27) (n9 := n9 + (jsz Z - jsz Z5) + 600) (by show k9 + (jcz Z - jcz Z5) + 0 ≤ _; omega) (by show n9 + (jsz Z - jsz Z5) + 0 ≤ _; omega) ?_
    exact m_L_law_b537 E hX hV hU hl0 hb9 hn9 K23 hK23 v1 v2 v3 v4 v1 (xs (v4 + (1 : Int32)).toNatClampNeg) (xs (v4 + (2 : Int32)).toNatClampNeg) (1 : Int32) Z I L hZ hx hc hb kv1 kv2 kv3 kv1 h
set_option maxRecDepth 100000 in
def f_L_law_b575 (xs : Nat → Int32) (Ls : Nat) (B : Nat × Nat) (K23 : Nat → Nat → Nat → Int32 → jZ → jI → jL → Prop) (v1 : Nat) (v2 : Nat) (v3 : Nat) (v4 : Int32) (Z : jZ) (I : jI) (L : jL) : Prop := (vp_in (v4 + (1 : Int32)) Ls ∧ (f_X11_wears v1 (xs (v4 + (1 : Int32)).toNatClampNeg) Z I L (fun r170 I166 L167 => (vp_in (v4 + (1 : Int32)) Ls ∧ (f_X12_wears v2 (xs (v4 + (1 : Int32)).toNatClampNeg) Z I166 L167 (fun r178 I174 L175 => f_L_law_b1760 xs Ls B K23 v1 v2 v3 v4 Z I174 L175))))))
set_option maxHeartbeats 4000000 in
set_option maxRecDepth 100000 in
theorem m_L_law_b575 {G : jG} {Z0 : jZ} {xs : Nat → Int32} {Ls b k9 n9 sa sb : Nat} {B : Nat × Nat} {Z5 : jZ} (E : jE G cL_law RL (Cond.arrayClass .byte :: jT) 8 (some .boolean) room_1 jRL) (hX : va_X b Ls xs (gS G) (gS G).heap ∧ b < (gS G).heap.size ∧ ¬ gA G b) (hV : jV (gA G) (gS G) (gS G).heap) (hU : jU sa sb (gA G) (gS G) (gS G).heap) (hl0 : (gL G).stackTraces = false) (hb9 : k9 + 27 + (B.1 - jcz Z5) ≤ 601024) (hn9 : n9 + 600 + (B.2 - jsz Z5) ≤ 7293034) (K23 : Nat → Nat → Nat → Int32 → jZ → jI → jL → Prop) (hK23 : ∀ (v1 : Nat) (v2 : Nat) (v3 : Nat) (v4 : Int32) (Z : jZ) (I : jI) (L : jL), SH Z → jext Z0 Z → jle Z5 Z → jin B Z → jk Z v1 11 → jk Z v2 12 → jk Z v3 15 → K23 v1 v2 v3 v4 Z I L → jJ G 8 23 [(0, .ref b), (1, .ref v1), (2, .ref v2), (3, .ref v3), (4, .int v4)] [] Z I L (k9 + (jcz Z - jcz Z5) + 27) (n9 + (jsz Z - jsz Z5) + 600)) (v1 : Nat) (v2 : Nat) (v3 : Nat) (v4 : Int32) (Z : jZ) (I : jI) (L : jL) (hZ : SH Z) (hx : jext Z0 Z) (hc : jle Z5 Z) (hb : jin B Z) (kv1 : jk Z v1 11) (kv2 : jk Z v2 12) (kv3 : jk Z v3 15) (h : f_L_law_b575 xs Ls B K23 v1 v2 v3 v4 Z I L) : jJ G 8 575 [(0, .ref b), (1, .ref v1), (2, .ref v2), (3, .ref v3), (4, .int v4)] [] Z I L (k9 + (jcz Z - jcz Z5) + 0) (n9 + (jsz Z - jsz Z5) + 0) := by
  unfold f_L_law_b575 at h
  refine j_aload_n E dL_law_575 1 rfl ?_
  refine j_aload_n E dL_law_576 0 rfl ?_
  refine j_iload E dL_law_577 4 rfl ?_
  refine j_iconst E (v := 1) dL_law_579 (by decide) ?_
  refine j_iadd E dL_law_580 ?_
  obtain ⟨o163, h⟩ := h
  refine j_sld E hX.1 hX.2.1 hX.2.2 o163 dL_law_581 ?_
  refine j_callV E [.int (xs (v4 + (1 : Int32)).toNatClampNeg)] [] (c_X11_wears (gL G) (gD G) (gY G) v1 (xs (v4 + (1 : Int32)).toNatClampNeg) Z I L _ hZ kv1 h) (gwV W_1278 W_1279 W_1280 W_40 W_1277) rfl ⟨rfl, fy_X11_wears⟩ ⟨by decide, by decide⟩ (c := 11) rfl (by decide) kv1 rfl rfl (Nat.le_of_ble_eq_true rfl) ⟨by show k9 + (jcz Z - jcz Z5) + 0 + 0 ≤ 601024; have := hb.1; omega, by show n9 + (jsz Z - jsz Z5) + 0 + 0 ≤ 7293034; have := hb.2; omega⟩ dL_law_582 (fun v164 Z165 I166 L167 q168 => ?_)
  obtain ⟨rfl, r170, rfl, h⟩ := q168
  show jJ G 8 585 [(0, .ref b), (1, .ref v1), (2, .ref v2), (3, .ref v3), (4, .int v4)] [.int r170] Z I166 L167 (k9 + (jcz Z - jcz Z5) + 0) (n9 + (jsz Z - jsz Z5) + 0)
  refine j_pop E dL_law_585 rfl ?_
  refine j_aload_n E dL_law_586 2 rfl ?_
  refine j_aload_n E dL_law_587 0 rfl ?_
  refine j_iload E dL_law_588 4 rfl ?_
  refine j_iconst E (v := 1) dL_law_590 (by decide) ?_
  refine j_iadd E dL_law_591 ?_
  obtain ⟨o171, h⟩ := h
  refine j_sld E hX.1 hX.2.1 hX.2.2 o171 dL_law_592 ?_
  refine j_callV E [.int (xs (v4 + (1 : Int32)).toNatClampNeg)] [] (c_X12_wears (gL G) (gD G) (gY G) v2 (xs (v4 + (1 : Int32)).toNatClampNeg) Z I166 L167 _ hZ kv2 h) (gwV W_1282 W_1283 W_1284 W_695 W_1281) rfl ⟨rfl, fy_X12_wears⟩ ⟨by decide, by decide⟩ (c := 12) rfl (by decide) kv2 rfl rfl (Nat.le_of_ble_eq_true rfl) ⟨by show k9 + (jcz Z - jcz Z5) + 0 + 0 ≤ 601024; have := hb.1; omega, by show n9 + (jsz Z - jsz Z5) + 0 + 0 ≤ 7293034; have := hb.2; omega⟩ dL_law_593 (fun v172 Z173 I174 L175 q176 => ?_)
  obtain ⟨rfl, r178, rfl, h⟩ := q176
  show jJ G 8 596 [(0, .ref b), (1, .ref v1), (2, .ref v2), (3, .ref v3), (4, .int v4)] [.int r178] Z I174 L175 (k9 + (jcz Z - jcz Z5) + 0) (n9 + (jsz Z - jsz Z5) + 0)
  refine j_pop E dL_law_596 rfl ?_
  refine j_goto E 1760 dL_law_597 (by decide) ?_
  refine j_sub [0, 1, 2, 3, 4] rfl ?_
  refine j_widen (k9 := k9 + (jcz Z - jcz Z5) + 27) (n9 := n9 + (jsz Z - jsz Z5) + 600) (by show k9 + (jcz Z - jcz Z5) + 0 ≤ _; omega) (by show n9 + (jsz Z - jsz Z5) + 0 ≤ _; omega) ?_
  exact m_L_law_b1760 E hX hV hU hl0 hb9 hn9 K23 hK23 v1 v2 v3 v4 Z I174 L175 hZ hx hc hb kv1 kv2 kv3 h
set_option maxRecDepth 100000 in
def f_L_law_b600 (xs : Nat → Int32) (Ls : Nat) (B : Nat × Nat) (K23 : Nat → Nat → Nat → Int32 → jZ → jI → jL → Prop) (v1 : Nat) (v2 : Nat) (v3 : Nat) (v4 : Int32) (Z : jZ) (I : jI) (L : jL) : Prop := (vp_in (v4 + (1 : Int32)) Ls ∧ (vp_in (v4 + (2 : Int32)) Ls ∧ (vp_in (v4 + (3 : Int32)) Ls ∧ (vp_in (v4 + (4 : Int32)) Ls ∧ (f_X11_pilgrim v1 (xs (v4 + (1 : Int32)).toNatClampNeg) (xs (v4 + (2 : Int32)).toNatClampNeg) (xs (v4 + (3 : Int32)).toNatClampNeg) (xs (v4 + (4 : Int32)).toNatClampNeg) Z I L (fun r189 Z184 I185 L186 => ((jle Z Z184 ∧ jin B Z184) ∧ (vp_in (v4 + (1 : Int32)) Ls ∧ (vp_in (v4 + (2 : Int32)) Ls ∧ (vp_in (v4 + (3 : Int32)) Ls ∧ (vp_in (v4 + (4 : Int32)) Ls ∧ (f_X12_pilgrim v2 (xs (v4 + (1 : Int32)).toNatClampNeg) (xs (v4 + (2 : Int32)).toNatClampNeg) (xs (v4 + (3 : Int32)).toNatClampNeg) (xs (v4 + (4 : Int32)).toNatClampNeg) Z184 I185 L186 (fun r204 I200 L201 => f_L_law_b1760 xs Ls B K23 v1 v2 v3 v4 Z184 I200 L201)))))))))))))
set_option maxHeartbeats 4000000 in
set_option maxRecDepth 100000 in
theorem m_L_law_b600 {G : jG} {Z0 : jZ} {xs : Nat → Int32} {Ls b k9 n9 sa sb : Nat} {B : Nat × Nat} {Z5 : jZ} (E : jE G cL_law RL (Cond.arrayClass .byte :: jT) 8 (some .boolean) room_1 jRL) (hX : va_X b Ls xs (gS G) (gS G).heap ∧ b < (gS G).heap.size ∧ ¬ gA G b) (hV : jV (gA G) (gS G) (gS G).heap) (hU : jU sa sb (gA G) (gS G) (gS G).heap) (hl0 : (gL G).stackTraces = false) (hb9 : k9 + 27 + (B.1 - jcz Z5) ≤ 601024) (hn9 : n9 + 600 + (B.2 - jsz Z5) ≤ 7293034) (K23 : Nat → Nat → Nat → Int32 → jZ → jI → jL → Prop) (hK23 : ∀ (v1 : Nat) (v2 : Nat) (v3 : Nat) (v4 : Int32) (Z : jZ) (I : jI) (L : jL), SH Z → jext Z0 Z → jle Z5 Z → jin B Z → jk Z v1 11 → jk Z v2 12 → jk Z v3 15 → K23 v1 v2 v3 v4 Z I L → jJ G 8 23 [(0, .ref b), (1, .ref v1), (2, .ref v2), (3, .ref v3), (4, .int v4)] [] Z I L (k9 + (jcz Z - jcz Z5) + 27) (n9 + (jsz Z - jsz Z5) + 600)) (v1 : Nat) (v2 : Nat) (v3 : Nat) (v4 : Int32) (Z : jZ) (I : jI) (L : jL) (hZ : SH Z) (hx : jext Z0 Z) (hc : jle Z5 Z) (hb : jin B Z) (kv1 : jk Z v1 11) (kv2 : jk Z v2 12) (kv3 : jk Z v3 15) (h : f_L_law_b600 xs Ls B K23 v1 v2 v3 v4 Z I L) : jJ G 8 600 [(0, .ref b), (1, .ref v1), (2, .ref v2), (3, .ref v3), (4, .int v4)] [] Z I L (k9 + (jcz Z - jcz Z5) + 0) (n9 + (jsz Z - jsz Z5) + 0) := by
  unfold f_L_law_b600 at h
  refine j_aload_n E dL_law_600 1 rfl ?_
  refine j_aload_n E dL_law_601 0 rfl ?_
  refine j_iload E dL_law_602 4 rfl ?_
  refine j_iconst E (v := 1) dL_law_604 (by decide) ?_
  refine j_iadd E dL_law_605 ?_
  obtain ⟨o179, h⟩ := h
  refine j_sld E hX.1 hX.2.1 hX.2.2 o179 dL_law_606 ?_
  refine j_aload_n E dL_law_607 0 rfl ?_
  refine j_iload E dL_law_608 4 rfl ?_
  refine j_iconst E (v := 2) dL_law_610 (by decide) ?_
  refine j_iadd E dL_law_611 ?_
  obtain ⟨o180, h⟩ := h
  refine j_sld E hX.1 hX.2.1 hX.2.2 o180 dL_law_612 ?_
  refine j_aload_n E dL_law_613 0 rfl ?_
  refine j_iload E dL_law_614 4 rfl ?_
  refine j_iconst E (v := 3) dL_law_616 (by decide) ?_
  refine j_iadd E dL_law_617 ?_
  obtain ⟨o181, h⟩ := h
  refine j_sld E hX.1 hX.2.1 hX.2.2 o181 dL_law_618 ?_
  refine j_aload_n E dL_law_619 0 rfl ?_
  refine j_iload E dL_law_620 4 rfl ?_
  refine j_iconst E (v := 4) dL_law_622 (by decide) ?_
  refine j_iadd E dL_law_623 ?_
  obtain ⟨o182, h⟩ := h
  refine j_sld E hX.1 hX.2.1 hX.2.2 o182 dL_law_624 ?_
  refine j_callV E [.int (xs (v4 + (1 : Int32)).toNatClampNeg), .int (xs (v4 + (2 : Int32)).toNatClampNeg), .int (xs (v4 + (3 : Int32)).toNatClampNeg), .int (xs (v4 + (4 : Int32)).toNatClampNeg)] [] (c_X11_pilgrim (gL G) (gD G) (gY G) v1 (xs (v4 + (1 : Int32)).toNatClampNeg) (xs (v4 + (2 : Int32)).toNatClampNeg) (xs (v4 + (3 : Int32)).toNatClampNeg) (xs (v4 + (4 : Int32)).toNatClampNeg) Z I L _ hZ kv1 h) (gwV W_1286 W_1287 W_1288 W_40 W_1285) rfl ⟨rfl, fy_X11_pilgrim⟩ ⟨by decide, by decide⟩ (c := 11) rfl (by decide) kv1 rfl rfl (Nat.le_of_ble_eq_true rfl) ⟨by show k9 + (jcz Z - jcz Z5) + 0 + 26 ≤ 601024; have := hb.1; omega, by show n9 + (jsz Z - jsz Z5) + 0 + 585 ≤ 7293034; have := hb.2; omega⟩ dL_law_625 (fun v183 Z184 I185 L186 q187 => ?_)
  obtain ⟨yZ184, hZ184, r189, rfl, h⟩ := q187
  have hZ := hZ184
  have hx : jext Z0 Z184 := jext_trans hx yZ184
  obtain ⟨o190, h⟩ := h
  refine j_widen (k9 + (jcz Z184 - jcz Z5) + 26) (n9 + (jsz Z184 - jsz Z5) + 585) (by show k9 + (jcz Z - jcz Z5) + 0 + 26 ≤ _; have := hc.1; have := o190.1.1; omega) (by show n9 + (jsz Z - jsz Z5) + 0 + 585 ≤ _; have := hc.2; have := o190.1.2; omega) ?_
  have hc := jle_trans hc o190.1
  have hb := o190.2
  have k191 := (yZ184 _ _ kv1).1
  have k192 := (yZ184 _ _ kv2).1
  have k193 := (yZ184 _ _ kv3).1
  show jJ G 8 628 [(0, .ref b), (1, .ref v1), (2, .ref v2), (3, .ref v3), (4, .int v4)] [.int r189] Z184 I185 L186 (k9 + (jcz Z184 - jcz Z5) + 26) (n9 + (jsz Z184 - jsz Z5) + 585)
  refine j_pop E dL_law_628 rfl ?_
  refine j_aload_n E dL_law_629 2 rfl ?_
  refine j_aload_n E dL_law_630 0 rfl ?_
  refine j_iload E dL_law_631 4 rfl ?_
  refine j_iconst E (v := 1) dL_law_633 (by decide) ?_
  refine j_iadd E dL_law_634 ?_
  obtain ⟨o194, h⟩ := h
  refine j_sld E hX.1 hX.2.1 hX.2.2 o194 dL_law_635 ?_
  refine j_aload_n E dL_law_636 0 rfl ?_
  refine j_iload E dL_law_637 4 rfl ?_
  refine j_iconst E (v := 2) dL_law_639 (by decide) ?_
  refine j_iadd E dL_law_640 ?_
  obtain ⟨o195, h⟩ := h
  refine j_sld E hX.1 hX.2.1 hX.2.2 o195 dL_law_641 ?_
  refine j_aload_n E dL_law_642 0 rfl ?_
  refine j_iload E dL_law_643 4 rfl ?_
  refine j_iconst E (v := 3) dL_law_645 (by decide) ?_
  refine j_iadd E dL_law_646 ?_
  obtain ⟨o196, h⟩ := h
  refine j_sld E hX.1 hX.2.1 hX.2.2 o196 dL_law_647 ?_
  refine j_aload_n E dL_law_648 0 rfl ?_
  refine j_iload E dL_law_649 4 rfl ?_
  refine j_iconst E (v := 4) dL_law_651 (by decide) ?_
  refine j_iadd E dL_law_652 ?_
  obtain ⟨o197, h⟩ := h
  refine j_sld E hX.1 hX.2.1 hX.2.2 o197 dL_law_653 ?_
  refine j_callV E [.int (xs (v4 + (1 : Int32)).toNatClampNeg), .int (xs (v4 + (2 : Int32)).toNatClampNeg), .int (xs (v4 + (3 : Int32)).toNatClampNeg), .int (xs (v4 + (4 : Int32)).toNatClampNeg)] [] (c_X12_pilgrim (gL G) (gD G) (gY G) v2 (xs (v4 + (1 : Int32)).toNatClampNeg) (xs (v4 + (2 : Int32)).toNatClampNeg) (xs (v4 + (3 : Int32)).toNatClampNeg) (xs (v4 + (4 : Int32)).toNatClampNeg) Z184 I185 L186 _ hZ k192 h) (gwV W_1290 W_1291 W_1292 W_695 W_1289) rfl ⟨rfl, fy_X12_pilgrim⟩ ⟨by decide, by decide⟩ (c := 12) rfl (by decide) k192 rfl rfl (Nat.le_of_ble_eq_true rfl) ⟨by show k9 + (jcz Z184 - jcz Z5) + 26 + 0 ≤ 601024; have := hb.1; omega, by show n9 + (jsz Z184 - jsz Z5) + 585 + 0 ≤ 7293034; have := hb.2; omega⟩ dL_law_654 (fun v198 Z199 I200 L201 q202 => ?_)
  obtain ⟨rfl, r204, rfl, h⟩ := q202
  show jJ G 8 657 [(0, .ref b), (1, .ref v1), (2, .ref v2), (3, .ref v3), (4, .int v4)] [.int r204] Z184 I200 L201 (k9 + (jcz Z184 - jcz Z5) + 26) (n9 + (jsz Z184 - jsz Z5) + 585)
  refine j_pop E dL_law_657 rfl ?_
  refine j_goto E 1760 dL_law_658 (by decide) ?_
  refine j_sub [0, 1, 2, 3, 4] rfl ?_
  refine j_widen (k9 := k9 + (jcz Z184 - jcz Z5) + 27) (n9 := n9 + (jsz Z184 - jsz Z5) + 600) (by show k9 + (jcz Z184 - jcz Z5) + 26 ≤ _; omega) (by show n9 + (jsz Z184 - jsz Z5) + 585 ≤ _; omega) ?_
  exact m_L_law_b1760 E hX hV hU hl0 hb9 hn9 K23 hK23 v1 v2 v3 v4 Z184 I200 L201 hZ hx hc hb k191 k192 k193 h
set_option maxRecDepth 100000 in
def f_L_law_b661 (xs : Nat → Int32) (Ls : Nat) (B : Nat × Nat) (K23 : Nat → Nat → Nat → Int32 → jZ → jI → jL → Prop) (v1 : Nat) (v2 : Nat) (v3 : Nat) (v4 : Int32) (Z : jZ) (I : jI) (L : jL) : Prop := (vp_in (v4 + (1 : Int32)) Ls ∧ (vp_in (v4 + (2 : Int32)) Ls ∧ (f_X11_vow v1 (xs (v4 + (1 : Int32)).toNatClampNeg) (xs (v4 + (2 : Int32)).toNatClampNeg) Z I L (fun r213 I209 L210 => (vp_in (v4 + (1 : Int32)) Ls ∧ (vp_in (v4 + (2 : Int32)) Ls ∧ (f_X12_vow v2 (xs (v4 + (1 : Int32)).toNatClampNeg) (xs (v4 + (2 : Int32)).toNatClampNeg) Z I209 L210 (fun r222 I218 L219 => f_L_law_b1760 xs Ls B K23 v1 v2 v3 v4 Z I218 L219))))))))
set_option maxHeartbeats 4000000 in
set_option maxRecDepth 100000 in
theorem m_L_law_b661 {G : jG} {Z0 : jZ} {xs : Nat → Int32} {Ls b k9 n9 sa sb : Nat} {B : Nat × Nat} {Z5 : jZ} (E : jE G cL_law RL (Cond.arrayClass .byte :: jT) 8 (some .boolean) room_1 jRL) (hX : va_X b Ls xs (gS G) (gS G).heap ∧ b < (gS G).heap.size ∧ ¬ gA G b) (hV : jV (gA G) (gS G) (gS G).heap) (hU : jU sa sb (gA G) (gS G) (gS G).heap) (hl0 : (gL G).stackTraces = false) (hb9 : k9 + 27 + (B.1 - jcz Z5) ≤ 601024) (hn9 : n9 + 600 + (B.2 - jsz Z5) ≤ 7293034) (K23 : Nat → Nat → Nat → Int32 → jZ → jI → jL → Prop) (hK23 : ∀ (v1 : Nat) (v2 : Nat) (v3 : Nat) (v4 : Int32) (Z : jZ) (I : jI) (L : jL), SH Z → jext Z0 Z → jle Z5 Z → jin B Z → jk Z v1 11 → jk Z v2 12 → jk Z v3 15 → K23 v1 v2 v3 v4 Z I L → jJ G 8 23 [(0, .ref b), (1, .ref v1), (2, .ref v2), (3, .ref v3), (4, .int v4)] [] Z I L (k9 + (jcz Z - jcz Z5) + 27) (n9 + (jsz Z - jsz Z5) + 600)) (v1 : Nat) (v2 : Nat) (v3 : Nat) (v4 : Int32) (Z : jZ) (I : jI) (L : jL) (hZ : SH Z) (hx : jext Z0 Z) (hc : jle Z5 Z) (hb : jin B Z) (kv1 : jk Z v1 11) (kv2 : jk Z v2 12) (kv3 : jk Z v3 15) (h : f_L_law_b661 xs Ls B K23 v1 v2 v3 v4 Z I L) : jJ G 8 661 [(0, .ref b), (1, .ref v1), (2, .ref v2), (3, .ref v3), (4, .int v4)] [] Z I L (k9 + (jcz Z - jcz Z5) + 0) (n9 + (jsz Z - jsz Z5) + 0) := by
  unfold f_L_law_b661 at h
  refine j_aload_n E dL_law_661 1 rfl ?_
  refine j_aload_n E dL_law_662 0 rfl ?_
  refine j_iload E dL_law_663 4 rfl ?_
  refine j_iconst E (v := 1) dL_law_665 (by decide) ?_
  refine j_iadd E dL_law_666 ?_
  obtain ⟨o205, h⟩ := h
  refine j_sld E hX.1 hX.2.1 hX.2.2 o205 dL_law_667 ?_
  refine j_aload_n E dL_law_668 0 rfl ?_
  refine j_iload E dL_law_669 4 rfl ?_
  refine j_iconst E (v := 2) dL_law_671 (by decide) ?_
  refine j_iadd E dL_law_672 ?_
  obtain ⟨o206, h⟩ := h
  refine j_sld E hX.1 hX.2.1 hX.2.2 o206 dL_law_673 ?_
  refine j_callV E [.int (xs (v4 + (1 : Int32)).toNatClampNeg), .int (xs (v4 + (2 : Int32)).toNatClampNeg)] [] (c_X11_vow (gL G) (gD G) (gY G) v1 (xs (v4 + (1 : Int32)).toNatClampNeg) (xs (v4 + (2 : Int32)).toNatClampNeg) Z I L _ hZ kv1 h) (gwV W_1294 W_1295 W_1296 W_40 W_1293) rfl ⟨rfl, fy_X11_vow⟩ ⟨by decide, by decide⟩ (c := 11) rfl (by decide) kv1 rfl rfl (Nat.le_of_ble_eq_true rfl) ⟨by show k9 + (jcz Z - jcz Z5) + 0 + 0 ≤ 601024; have := hb.1; omega, by show n9 + (jsz Z - jsz Z5) + 0 + 0 ≤ 7293034; have := hb.2; omega⟩ dL_law_674 (fun v207 Z208 I209 L210 q211 => ?_)
  obtain ⟨rfl, r213, rfl, h⟩ := q211
  show jJ G 8 677 [(0, .ref b), (1, .ref v1), (2, .ref v2), (3, .ref v3), (4, .int v4)] [.int r213] Z I209 L210 (k9 + (jcz Z - jcz Z5) + 0) (n9 + (jsz Z - jsz Z5) + 0)
  refine j_pop E dL_law_677 rfl ?_
  refine j_aload_n E dL_law_678 2 rfl ?_
  refine j_aload_n E dL_law_679 0 rfl ?_
  refine j_iload E dL_law_680 4 rfl ?_
  refine j_iconst E (v := 1) dL_law_682 (by decide) ?_
  refine j_iadd E dL_law_683 ?_
  obtain ⟨o214, h⟩ := h
  refine j_sld E hX.1 hX.2.1 hX.2.2 o214 dL_law_684 ?_
  refine j_aload_n E dL_law_685 0 rfl ?_
  refine j_iload E dL_law_686 4 rfl ?_
  refine j_iconst E (v := 2) dL_law_688 (by decide) ?_
  refine j_iadd E dL_law_689 ?_
  obtain ⟨o215, h⟩ := h
  refine j_sld E hX.1 hX.2.1 hX.2.2 o215 dL_law_690 ?_
  refine j_callV E [.int (xs (v4 + (1 : Int32)).toNatClampNeg), .int (xs (v4 + (2 : Int32)).toNatClampNeg)] [] (c_X12_vow (gL G) (gD G) (gY G) v2 (xs (v4 + (1 : Int32)).toNatClampNeg) (xs (v4 + (2 : Int32)).toNatClampNeg) Z I209 L210 _ hZ kv2 h) (gwV W_1298 W_1299 W_1300 W_695 W_1297) rfl ⟨rfl, fy_X12_vow⟩ ⟨by decide, by decide⟩ (c := 12) rfl (by decide) kv2 rfl rfl (Nat.le_of_ble_eq_true rfl) ⟨by show k9 + (jcz Z - jcz Z5) + 0 + 0 ≤ 601024; have := hb.1; omega, by show n9 + (jsz Z - jsz Z5) + 0 + 0 ≤ 7293034; have := hb.2; omega⟩ dL_law_691 (fun v216 Z217 I218 L219 q220 => ?_)
  obtain ⟨rfl, r222, rfl, h⟩ := q220
  show jJ G 8 694 [(0, .ref b), (1, .ref v1), (2, .ref v2), (3, .ref v3), (4, .int v4)] [.int r222] Z I218 L219 (k9 + (jcz Z - jcz Z5) + 0) (n9 + (jsz Z - jsz Z5) + 0)
  refine j_pop E dL_law_694 rfl ?_
  refine j_goto E 1760 dL_law_695 (by decide) ?_
  refine j_sub [0, 1, 2, 3, 4] rfl ?_
  refine j_widen (k9 := k9 + (jcz Z - jcz Z5) + 27) (n9 := n9 + (jsz Z - jsz Z5) + 600) (by show k9 + (jcz Z - jcz Z5) + 0 ≤ _; omega) (by show n9 + (jsz Z - jsz Z5) + 0 ≤ _; omega) ?_
  exact m_L_law_b1760 E hX hV hU hl0 hb9 hn9 K23 hK23 v1 v2 v3 v4 Z I218 L219 hZ hx hc hb kv1 kv2 kv3 h
set_option maxRecDepth 100000 in
def f_L_law_b698 (xs : Nat → Int32) (Ls : Nat) (B : Nat × Nat) (K23 : Nat → Nat → Nat → Int32 → jZ → jI → jL → Prop) (v1 : Nat) (v2 : Nat) (v3 : Nat) (v4 : Int32) (Z : jZ) (I : jI) (L : jL) : Prop := (vp_in (v4 + (1 : Int32)) Ls ∧ (vp_in (v4 + (2 : Int32)) Ls ∧ (f_L_of v1 (xs (v4 + (1 : Int32)).toNatClampNeg) (xs (v4 + (2 : Int32)).toNatClampNeg) v3 Z I L (fun r231 I227 L228 => (vp_in (v4 + (1 : Int32)) Ls ∧ (vp_in (v4 + (2 : Int32)) Ls ∧ (f_X12_of v2 (xs (v4 + (1 : Int32)).toNatClampNeg) (xs (v4 + (2 : Int32)).toNatClampNeg) Z I227 L228 (fun r240 I236 L237 => f_L_law_b1760 xs Ls B K23 v1 v2 v3 v4 Z I236 L237))))))))
set_option maxHeartbeats 4000000 in
set_option maxRecDepth 100000 in
theorem m_L_law_b698 {G : jG} {Z0 : jZ} {xs : Nat → Int32} {Ls b k9 n9 sa sb : Nat} {B : Nat × Nat} {Z5 : jZ} (E : jE G cL_law RL (Cond.arrayClass .byte :: jT) 8 (some .boolean) room_1 jRL) (hX : va_X b Ls xs (gS G) (gS G).heap ∧ b < (gS G).heap.size ∧ ¬ gA G b) (hV : jV (gA G) (gS G) (gS G).heap) (hU : jU sa sb (gA G) (gS G) (gS G).heap) (hl0 : (gL G).stackTraces = false) (hb9 : k9 + 27 + (B.1 - jcz Z5) ≤ 601024) (hn9 : n9 + 600 + (B.2 - jsz Z5) ≤ 7293034) (K23 : Nat → Nat → Nat → Int32 → jZ → jI → jL → Prop) (hK23 : ∀ (v1 : Nat) (v2 : Nat) (v3 : Nat) (v4 : Int32) (Z : jZ) (I : jI) (L : jL), SH Z → jext Z0 Z → jle Z5 Z → jin B Z → jk Z v1 11 → jk Z v2 12 → jk Z v3 15 → K23 v1 v2 v3 v4 Z I L → jJ G 8 23 [(0, .ref b), (1, .ref v1), (2, .ref v2), (3, .ref v3), (4, .int v4)] [] Z I L (k9 + (jcz Z - jcz Z5) + 27) (n9 + (jsz Z - jsz Z5) + 600)) (v1 : Nat) (v2 : Nat) (v3 : Nat) (v4 : Int32) (Z : jZ) (I : jI) (L : jL) (hZ : SH Z) (hx : jext Z0 Z) (hc : jle Z5 Z) (hb : jin B Z) (kv1 : jk Z v1 11) (kv2 : jk Z v2 12) (kv3 : jk Z v3 15) (h : f_L_law_b698 xs Ls B K23 v1 v2 v3 v4 Z I L) : jJ G 8 698 [(0, .ref b), (1, .ref v1), (2, .ref v2), (3, .ref v3), (4, .int v4)] [] Z I L (k9 + (jcz Z - jcz Z5) + 0) (n9 + (jsz Z - jsz Z5) + 0) := by
  unfold f_L_law_b698 at h
  refine j_aload_n E dL_law_698 1 rfl ?_
  refine j_aload_n E dL_law_699 0 rfl ?_
  refine j_iload E dL_law_700 4 rfl ?_
  refine j_iconst E (v := 1) dL_law_702 (by decide) ?_
  refine j_iadd E dL_law_703 ?_
  obtain ⟨o223, h⟩ := h
  refine j_sld E hX.1 hX.2.1 hX.2.2 o223 dL_law_704 ?_
  refine j_aload_n E dL_law_705 0 rfl ?_
  refine j_iload E dL_law_706 4 rfl ?_
  refine j_iconst E (v := 2) dL_law_708 (by decide) ?_
  refine j_iadd E dL_law_709 ?_
  obtain ⟨o224, h⟩ := h
  refine j_sld E hX.1 hX.2.1 hX.2.2 o224 dL_law_710 ?_
  refine j_aload_n E dL_law_711 3 rfl ?_
  refine j_callSH E hV [.ref v1, .int (xs (v4 + (1 : Int32)).toNatClampNeg), .int (xs (v4 + (2 : Int32)).toNatClampNeg), .ref v3] [] (c_L_of (gL G) hl0 (gD G) (gY G) v1 (xs (v4 + (1 : Int32)).toNatClampNeg) (xs (v4 + (2 : Int32)).toNatClampNeg) v3 Z I L _ hZ kv1 kv3 h) (gwS W_1301 W_1302 W_1241 W_1303) rfl fy_L_of ⟨by decide, by decide⟩ rfl rfl (Nat.le_of_ble_eq_true rfl) ⟨by show k9 + (jcz Z - jcz Z5) + 0 + 1 ≤ 601024; have := hb.1; omega, by show n9 + (jsz Z - jsz Z5) + 0 + 6 ≤ 7293034; have := hb.2; omega⟩ dL_law_712 (fun v225 Z226 I227 L228 q229 => ?_)
  obtain ⟨rfl, r231, rfl, h⟩ := q229
  show jJ G 8 715 [(0, .ref b), (1, .ref v1), (2, .ref v2), (3, .ref v3), (4, .int v4)] [.int r231] Z I227 L228 (k9 + (jcz Z - jcz Z5) + 1) (n9 + (jsz Z - jsz Z5) + 6)
  refine j_istore E 5 [(5, .int r231), (0, .ref b), (1, .ref v1), (2, .ref v2), (3, .ref v3), (4, .int v4)] dL_law_715 (by decide) rfl ?_
  refine j_aload_n E dL_law_717 3 rfl ?_
  refine j_aload_n E dL_law_718 1 rfl ?_
  refine j_iload E dL_law_719 5 rfl ?_
  refine j_iconst E (v := 1) dL_law_721 (by decide) ?_
  refine j_iadd E dL_law_722 ?_
  obtain ⟨o232, h⟩ := h
  refine j_sld E hX.1 hX.2.1 hX.2.2 o232 dL_law_723 ?_
  refine j_aload_n E dL_law_724 1 rfl ?_
  refine j_iload E dL_law_725 5 rfl ?_
  refine j_iconst E (v := 2) dL_law_727 (by decide) ?_
  refine j_iadd E dL_law_728 ?_
  obtain ⟨o233, h⟩ := h
  refine j_sld E hX.1 hX.2.1 hX.2.2 o233 dL_law_729 ?_
  refine j_callV E [.int (xs (v4 + (1 : Int32)).toNatClampNeg), .int (xs (v4 + (2 : Int32)).toNatClampNeg)] [] (c_X12_of (gL G) (gD G) (gY G) v2 (xs (v4 + (1 : Int32)).toNatClampNeg) (xs (v4 + (2 : Int32)).toNatClampNeg) Z I227 L228 _ hZ kv2 h) (gwV W_1305 W_1306 W_1307 W_695 W_1304) rfl ⟨rfl, fy_X12_of⟩ ⟨by decide, by decide⟩ (c := 12) rfl (by decide) kv2 rfl rfl (Nat.le_of_ble_eq_true rfl) ⟨by show k9 + (jcz Z - jcz Z5) + 1 + 0 ≤ 601024; have := hb.1; omega, by show n9 + (jsz Z - jsz Z5) + 6 + 0 ≤ 7293034; have := hb.2; omega⟩ dL_law_730 (fun v234 Z235 I236 L237 q238 => ?_)
  obtain ⟨rfl, r240, rfl, h⟩ := q238
  show jJ G 8 733 [(5, .int r231), (0, .ref b), (1, .ref v1), (2, .ref v2), (3, .ref v3), (4, .int v4)] [.int r240] Z I236 L237 (k9 + (jcz Z - jcz Z5) + 1) (n9 + (jsz Z - jsz Z5) + 6)
  refine j_istore E 6 [(6, .int r240), (5, .int r231), (0, .ref b), (1, .ref v1), (2, .ref v2), (3, .ref v3), (4, .int v4)] dL_law_733 (by decide) rfl ?_
  refine j_goto E 1760 dL_law_735 (by decide) ?_
  refine j_sub [2, 3, 4, 5, 6] rfl ?_
  refine j_widen (k9 := k9 + (jcz Z - jcz Z5) + 27) (n9 := n9 + (jsz Z - jsz Z5) + 600) (by show k9 + (jcz Z - jcz Z5) + 1 ≤ _; omega) (by show n9 + (jsz Z - jsz Z5) + 6 ≤ _; omega) ?_
  exact m_L_law_b1760 E hX hV hU hl0 hb9 hn9 K23 hK23 v1 v2 v3 v4 Z I236 L237 hZ hx hc hb kv1 kv2 kv3 h
set_option maxRecDepth 100000 in
def f_L_law_b738 (xs : Nat → Int32) (Ls : Nat) (B : Nat × Nat) (K23 : Nat → Nat → Nat → Int32 → jZ → jI → jL → Prop) (v1 : Nat) (v2 : Nat) (v3 : Nat) (v4 : Int32) (Z : jZ) (I : jI) (L : jL) : Prop := (vp_in (v4 + (1 : Int32)) Ls ∧ (vp_in (v4 + (2 : Int32)) Ls ∧ (f_X11_costs v1 (xs (v4 + (1 : Int32)).toNatClampNeg) (xs (v4 + (2 : Int32)).toNatClampNeg) Z I L (fun r249 I245 L246 => (vp_in (v4 + (1 : Int32)) Ls ∧ (vp_in (v4 + (2 : Int32)) Ls ∧ (f_X12_costs B v2 (xs (v4 + (1 : Int32)).toNatClampNeg) (xs (v4 + (2 : Int32)).toNatClampNeg) Z I245 L246 (fun r258 Z253 I254 L255 => f_L_law_b1760 xs Ls B K23 v1 v2 v3 v4 Z253 I254 L255))))))))
set_option maxHeartbeats 4000000 in
set_option maxRecDepth 100000 in
theorem m_L_law_b738 {G : jG} {Z0 : jZ} {xs : Nat → Int32} {Ls b k9 n9 sa sb : Nat} {B : Nat × Nat} {Z5 : jZ} (E : jE G cL_law RL (Cond.arrayClass .byte :: jT) 8 (some .boolean) room_1 jRL) (hX : va_X b Ls xs (gS G) (gS G).heap ∧ b < (gS G).heap.size ∧ ¬ gA G b) (hV : jV (gA G) (gS G) (gS G).heap) (hU : jU sa sb (gA G) (gS G) (gS G).heap) (hl0 : (gL G).stackTraces = false) (hb9 : k9 + 27 + (B.1 - jcz Z5) ≤ 601024) (hn9 : n9 + 600 + (B.2 - jsz Z5) ≤ 7293034) (K23 : Nat → Nat → Nat → Int32 → jZ → jI → jL → Prop) (hK23 : ∀ (v1 : Nat) (v2 : Nat) (v3 : Nat) (v4 : Int32) (Z : jZ) (I : jI) (L : jL), SH Z → jext Z0 Z → jle Z5 Z → jin B Z → jk Z v1 11 → jk Z v2 12 → jk Z v3 15 → K23 v1 v2 v3 v4 Z I L → jJ G 8 23 [(0, .ref b), (1, .ref v1), (2, .ref v2), (3, .ref v3), (4, .int v4)] [] Z I L (k9 + (jcz Z - jcz Z5) + 27) (n9 + (jsz Z - jsz Z5) + 600)) (v1 : Nat) (v2 : Nat) (v3 : Nat) (v4 : Int32) (Z : jZ) (I : jI) (L : jL) (hZ : SH Z) (hx : jext Z0 Z) (hc : jle Z5 Z) (hb : jin B Z) (kv1 : jk Z v1 11) (kv2 : jk Z v2 12) (kv3 : jk Z v3 15) (h : f_L_law_b738 xs Ls B K23 v1 v2 v3 v4 Z I L) : jJ G 8 738 [(0, .ref b), (1, .ref v1), (2, .ref v2), (3, .ref v3), (4, .int v4)] [] Z I L (k9 + (jcz Z - jcz Z5) + 0) (n9 + (jsz Z - jsz Z5) + 0) := by
  unfold f_L_law_b738 at h
  refine j_aload_n E dL_law_738 1 rfl ?_
  refine j_aload_n E dL_law_739 0 rfl ?_
  refine j_iload E dL_law_740 4 rfl ?_
  refine j_iconst E (v := 1) dL_law_742 (by decide) ?_
  refine j_iadd E dL_law_743 ?_
  obtain ⟨o241, h⟩ := h
  refine j_sld E hX.1 hX.2.1 hX.2.2 o241 dL_law_744 ?_
  refine j_aload_n E dL_law_745 0 rfl ?_
  refine j_iload E dL_law_746 4 rfl ?_
  refine j_iconst E (v := 2) dL_law_748 (by decide) ?_
  refine j_iadd E dL_law_749 ?_
  obtain ⟨o242, h⟩ := h
  refine j_sld E hX.1 hX.2.1 hX.2.2 o242 dL_law_750 ?_
  refine j_callV E [.int (xs (v4 + (1 : Int32)).toNatClampNeg), .int (xs (v4 + (2 : Int32)).toNatClampNeg)] [] (c_X11_costs (gL G) (gD G) (gY G) v1 (xs (v4 + (1 : Int32)).toNatClampNeg) (xs (v4 + (2 : Int32)).toNatClampNeg) Z I L _ hZ kv1 h) (gwV W_1309 W_1310 W_1311 W_40 W_1308) rfl ⟨rfl, fy_X11_costs⟩ ⟨by decide, by decide⟩ (c := 11) rfl (by decide) kv1 rfl rfl (Nat.le_of_ble_eq_true rfl) ⟨by show k9 + (jcz Z - jcz Z5) + 0 + 0 ≤ 601024; have := hb.1; omega, by show n9 + (jsz Z - jsz Z5) + 0 + 0 ≤ 7293034; have := hb.2; omega⟩ dL_law_751 (fun v243 Z244 I245 L246 q247 => ?_)
  obtain ⟨rfl, r249, rfl, h⟩ := q247
  show jJ G 8 754 [(0, .ref b), (1, .ref v1), (2, .ref v2), (3, .ref v3), (4, .int v4)] [.int r249] Z I245 L246 (k9 + (jcz Z - jcz Z5) + 0) (n9 + (jsz Z - jsz Z5) + 0)
  refine j_pop E dL_law_754 rfl ?_
  refine j_aload_n E dL_law_755 2 rfl ?_
  refine j_aload_n E dL_law_756 0 rfl ?_
  refine j_iload E dL_law_757 4 rfl ?_
  refine j_iconst E (v := 1) dL_law_759 (by decide) ?_
  refine j_iadd E dL_law_760 ?_
  obtain ⟨o250, h⟩ := h
  refine j_sld E hX.1 hX.2.1 hX.2.2 o250 dL_law_761 ?_
  refine j_aload_n E dL_law_762 0 rfl ?_
  refine j_iload E dL_law_763 4 rfl ?_
  refine j_iconst E (v := 2) dL_law_765 (by decide) ?_
  refine j_iadd E dL_law_766 ?_
  obtain ⟨o251, h⟩ := h
  refine j_sld E hX.1 hX.2.1 hX.2.2 o251 dL_law_767 ?_
  refine ju_callV E [.int (xs (v4 + (1 : Int32)).toNatClampNeg), .int (xs (v4 + (2 : Int32)).toNatClampNeg)] [] (c_X12_costs (gL G) (gD G) (gY G) B v2 (xs (v4 + (1 : Int32)).toNatClampNeg) (xs (v4 + (2 : Int32)).toNatClampNeg) Z I245 L246 _ hZ hb kv2 h) (gwV W_1313 W_1314 W_1315 W_695 W_1312) rfl ⟨rfl, fy_X12_costs⟩ ⟨by decide, by decide⟩ (c := 12) rfl (by decide) kv2 rfl rfl (Nat.le_of_ble_eq_true rfl) ⟨by show k9 + (jcz Z - jcz Z5) + 0 + (B.1 - jcz Z) ≤ 601024; have := hb.1; have := hc.1; omega, by show n9 + (jsz Z - jsz Z5) + 0 + (B.2 - jsz Z) ≤ 7293034; have := hb.2; have := hc.2; omega⟩ dL_law_768 (fun v252 Z253 I254 L255 q256 j257 => ?_)
  refine j_kn (k' := k9 + (jcz Z253 - jcz Z5) + 0) (n' := n9 + (jsz Z253 - jsz Z5) + 0) (by have := hc.1; have := j257.1; omega) (by have := hc.2; have := j257.2; omega) ?_
  have hc := jle_trans hc j257
  obtain ⟨yZ253, hZ253, hbZ253, r258, rfl, h⟩ := q256
  have hZ := hZ253
  have hx : jext Z0 Z253 := jext_trans hx yZ253
  have hb := hbZ253
  have k259 := (yZ253 _ _ kv1).1
  have k260 := (yZ253 _ _ kv2).1
  have k261 := (yZ253 _ _ kv3).1
  show jJ G 8 771 [(0, .ref b), (1, .ref v1), (2, .ref v2), (3, .ref v3), (4, .int v4)] [.int r258] Z253 I254 L255 (k9 + (jcz Z253 - jcz Z5) + 0) (n9 + (jsz Z253 - jsz Z5) + 0)
  refine j_pop E dL_law_771 rfl ?_
  refine j_goto E 1760 dL_law_772 (by decide) ?_
  refine j_sub [0, 1, 2, 3, 4] rfl ?_
  refine j_widen (k9 := k9 + (jcz Z253 - jcz Z5) + 27) (n9 := n9 + (jsz Z253 - jsz Z5) + 600) (by show k9 + (jcz Z253 - jcz Z5) + 0 ≤ _; omega) (by show n9 + (jsz Z253 - jsz Z5) + 0 ≤ _; omega) ?_
  exact m_L_law_b1760 E hX hV hU hl0 hb9 hn9 K23 hK23 v1 v2 v3 v4 Z253 I254 L255 hZ hx hc hb k259 k260 k261 h
set_option maxRecDepth 100000 in
def f_L_law_b775 (xs : Nat → Int32) (Ls : Nat) (B : Nat × Nat) (K23 : Nat → Nat → Nat → Int32 → jZ → jI → jL → Prop) (v1 : Nat) (v2 : Nat) (v3 : Nat) (v4 : Int32) (Z : jZ) (I : jI) (L : jL) : Prop := (vp_in (v4 + (1 : Int32)) Ls ∧ (vp_in (v4 + (2 : Int32)) Ls ∧ (f_X11_tread v1 (xs (v4 + (1 : Int32)).toNatClampNeg) (xs (v4 + (2 : Int32)).toNatClampNeg) Z I L (fun r270 I266 L267 => (vp_in (v4 + (1 : Int32)) Ls ∧ (vp_in (v4 + (2 : Int32)) Ls ∧ (f_X12_tread B v2 (xs (v4 + (1 : Int32)).toNatClampNeg) (xs (v4 + (2 : Int32)).toNatClampNeg) Z I266 L267 (fun r279 Z274 I275 L276 => f_L_law_b1760 xs Ls B K23 v1 v2 v3 v4 Z274 I275 L276))))))))
set_option maxHeartbeats 4000000 in
set_option maxRecDepth 100000 in
theorem m_L_law_b775 {G : jG} {Z0 : jZ} {xs : Nat → Int32} {Ls b k9 n9 sa sb : Nat} {B : Nat × Nat} {Z5 : jZ} (E : jE G cL_law RL (Cond.arrayClass .byte :: jT) 8 (some .boolean) room_1 jRL) (hX : va_X b Ls xs (gS G) (gS G).heap ∧ b < (gS G).heap.size ∧ ¬ gA G b) (hV : jV (gA G) (gS G) (gS G).heap) (hU : jU sa sb (gA G) (gS G) (gS G).heap) (hl0 : (gL G).stackTraces = false) (hb9 : k9 + 27 + (B.1 - jcz Z5) ≤ 601024) (hn9 : n9 + 600 + (B.2 - jsz Z5) ≤ 7293034) (K23 : Nat → Nat → Nat → Int32 → jZ → jI → jL → Prop) (hK23 : ∀ (v1 : Nat) (v2 : Nat) (v3 : Nat) (v4 : Int32) (Z : jZ) (I : jI) (L : jL), SH Z → jext Z0 Z → jle Z5 Z → jin B Z → jk Z v1 11 → jk Z v2 12 → jk Z v3 15 → K23 v1 v2 v3 v4 Z I L → jJ G 8 23 [(0, .ref b), (1, .ref v1), (2, .ref v2), (3, .ref v3), (4, .int v4)] [] Z I L (k9 + (jcz Z - jcz Z5) + 27) (n9 + (jsz Z - jsz Z5) + 600)) (v1 : Nat) (v2 : Nat) (v3 : Nat) (v4 : Int32) (Z : jZ) (I : jI) (L : jL) (hZ : SH Z) (hx : jext Z0 Z) (hc : jle Z5 Z) (hb : jin B Z) (kv1 : jk Z v1 11) (kv2 : jk Z v2 12) (kv3 : jk Z v3 15) (h : f_L_law_b775 xs Ls B K23 v1 v2 v3 v4 Z I L) : jJ G 8 775 [(0, .ref b), (1, .ref v1), (2, .ref v2), (3, .ref v3), (4, .int v4)] [] Z I L (k9 + (jcz Z - jcz Z5) + 0) (n9 + (jsz Z - jsz Z5) + 0) := by
  unfold f_L_law_b775 at h
  refine j_aload_n E dL_law_775 1 rfl ?_
  refine j_aload_n E dL_law_776 0 rfl ?_
  refine j_iload E dL_law_777 4 rfl ?_
  refine j_iconst E (v := 1) dL_law_779 (by decide) ?_
  refine j_iadd E dL_law_780 ?_
  obtain ⟨o262, h⟩ := h
  refine j_sld E hX.1 hX.2.1 hX.2.2 o262 dL_law_781 ?_
  refine j_aload_n E dL_law_782 0 rfl ?_
  refine j_iload E dL_law_783 4 rfl ?_
  refine j_iconst E (v := 2) dL_law_785 (by decide) ?_
  refine j_iadd E dL_law_786 ?_
  obtain ⟨o263, h⟩ := h
  refine j_sld E hX.1 hX.2.1 hX.2.2 o263 dL_law_787 ?_
  refine j_callV E [.int (xs (v4 + (1 : Int32)).toNatClampNeg), .int (xs (v4 + (2 : Int32)).toNatClampNeg)] [] (c_X11_tread (gL G) (gD G) (gY G) v1 (xs (v4 + (1 : Int32)).toNatClampNeg) (xs (v4 + (2 : Int32)).toNatClampNeg) Z I L _ hZ kv1 h) (gwV W_1317 W_1318 W_1319 W_40 W_1316) rfl ⟨rfl, fy_X11_tread⟩ ⟨by decide, by decide⟩ (c := 11) rfl (by decide) kv1 rfl rfl (Nat.le_of_ble_eq_true rfl) ⟨by show k9 + (jcz Z - jcz Z5) + 0 + 0 ≤ 601024; have := hb.1; omega, by show n9 + (jsz Z - jsz Z5) + 0 + 0 ≤ 7293034; have := hb.2; omega⟩ dL_law_788 (fun v264 Z265 I266 L267 q268 => ?_)
  obtain ⟨rfl, r270, rfl, h⟩ := q268
  show jJ G 8 791 [(0, .ref b), (1, .ref v1), (2, .ref v2), (3, .ref v3), (4, .int v4)] [.int r270] Z I266 L267 (k9 + (jcz Z - jcz Z5) + 0) (n9 + (jsz Z - jsz Z5) + 0)
  refine j_pop E dL_law_791 rfl ?_
  refine j_aload_n E dL_law_792 2 rfl ?_
  refine j_aload_n E dL_law_793 0 rfl ?_
  refine j_iload E dL_law_794 4 rfl ?_
  refine j_iconst E (v := 1) dL_law_796 (by decide) ?_
  refine j_iadd E dL_law_797 ?_
  obtain ⟨o271, h⟩ := h
  refine j_sld E hX.1 hX.2.1 hX.2.2 o271 dL_law_798 ?_
  refine j_aload_n E dL_law_799 0 rfl ?_
  refine j_iload E dL_law_800 4 rfl ?_
  refine j_iconst E (v := 2) dL_law_802 (by decide) ?_
  refine j_iadd E dL_law_803 ?_
  obtain ⟨o272, h⟩ := h
  refine j_sld E hX.1 hX.2.1 hX.2.2 o272 dL_law_804 ?_
  refine ju_callV E [.int (xs (v4 + (1 : Int32)).toNatClampNeg), .int (xs (v4 + (2 : Int32)).toNatClampNeg)] [] (c_X12_tread (gL G) (gD G) (gY G) B v2 (xs (v4 + (1 : Int32)).toNatClampNeg) (xs (v4 + (2 : Int32)).toNatClampNeg) Z I266 L267 _ hZ hb kv2 h) (gwV W_1321 W_1322 W_1323 W_695 W_1320) rfl ⟨rfl, fy_X12_tread⟩ ⟨by decide, by decide⟩ (c := 12) rfl (by decide) kv2 rfl rfl (Nat.le_of_ble_eq_true rfl) ⟨by show k9 + (jcz Z - jcz Z5) + 0 + (B.1 - jcz Z) ≤ 601024; have := hb.1; have := hc.1; omega, by show n9 + (jsz Z - jsz Z5) + 0 + (B.2 - jsz Z) ≤ 7293034; have := hb.2; have := hc.2; omega⟩ dL_law_805 (fun v273 Z274 I275 L276 q277 j278 => ?_)
  refine j_kn (k' := k9 + (jcz Z274 - jcz Z5) + 0) (n' := n9 + (jsz Z274 - jsz Z5) + 0) (by have := hc.1; have := j278.1; omega) (by have := hc.2; have := j278.2; omega) ?_
  have hc := jle_trans hc j278
  obtain ⟨yZ274, hZ274, hbZ274, r279, rfl, h⟩ := q277
  have hZ := hZ274
  have hx : jext Z0 Z274 := jext_trans hx yZ274
  have hb := hbZ274
  have k280 := (yZ274 _ _ kv1).1
  have k281 := (yZ274 _ _ kv2).1
  have k282 := (yZ274 _ _ kv3).1
  show jJ G 8 808 [(0, .ref b), (1, .ref v1), (2, .ref v2), (3, .ref v3), (4, .int v4)] [.int r279] Z274 I275 L276 (k9 + (jcz Z274 - jcz Z5) + 0) (n9 + (jsz Z274 - jsz Z5) + 0)
  refine j_pop E dL_law_808 rfl ?_
  refine j_goto E 1760 dL_law_809 (by decide) ?_
  refine j_sub [0, 1, 2, 3, 4] rfl ?_
  refine j_widen (k9 := k9 + (jcz Z274 - jcz Z5) + 27) (n9 := n9 + (jsz Z274 - jsz Z5) + 600) (by show k9 + (jcz Z274 - jcz Z5) + 0 ≤ _; omega) (by show n9 + (jsz Z274 - jsz Z5) + 0 ≤ _; omega) ?_
  exact m_L_law_b1760 E hX hV hU hl0 hb9 hn9 K23 hK23 v1 v2 v3 v4 Z274 I275 L276 hZ hx hc hb k280 k281 k282 h
set_option maxRecDepth 100000 in
def f_L_law_b812 (xs : Nat → Int32) (Ls : Nat) (B : Nat × Nat) (K23 : Nat → Nat → Nat → Int32 → jZ → jI → jL → Prop) (v1 : Nat) (v2 : Nat) (v3 : Nat) (v4 : Int32) (Z : jZ) (I : jI) (L : jL) : Prop := (vp_in (v4 + (1 : Int32)) Ls ∧ (vp_in (v4 + (2 : Int32)) Ls ∧ (f_X11_rests v1 (xs (v4 + (1 : Int32)).toNatClampNeg) (xs (v4 + (2 : Int32)).toNatClampNeg) Z I L (fun r291 I287 L288 => (vp_in (v4 + (1 : Int32)) Ls ∧ (vp_in (v4 + (2 : Int32)) Ls ∧ (f_X12_rests B v2 (xs (v4 + (1 : Int32)).toNatClampNeg) (xs (v4 + (2 : Int32)).toNatClampNeg) Z I287 L288 (fun r300 Z295 I296 L297 => f_L_law_b1760 xs Ls B K23 v1 v2 v3 v4 Z295 I296 L297))))))))
set_option maxHeartbeats 4000000 in
set_option maxRecDepth 100000 in
theorem m_L_law_b812 {G : jG} {Z0 : jZ} {xs : Nat → Int32} {Ls b k9 n9 sa sb : Nat} {B : Nat × Nat} {Z5 : jZ} (E : jE G cL_law RL (Cond.arrayClass .byte :: jT) 8 (some .boolean) room_1 jRL) (hX : va_X b Ls xs (gS G) (gS G).heap ∧ b < (gS G).heap.size ∧ ¬ gA G b) (hV : jV (gA G) (gS G) (gS G).heap) (hU : jU sa sb (gA G) (gS G) (gS G).heap) (hl0 : (gL G).stackTraces = false) (hb9 : k9 + 27 + (B.1 - jcz Z5) ≤ 601024) (hn9 : n9 + 600 + (B.2 - jsz Z5) ≤ 7293034) (K23 : Nat → Nat → Nat → Int32 → jZ → jI → jL → Prop) (hK23 : ∀ (v1 : Nat) (v2 : Nat) (v3 : Nat) (v4 : Int32) (Z : jZ) (I : jI) (L : jL), SH Z → jext Z0 Z → jle Z5 Z → jin B Z → jk Z v1 11 → jk Z v2 12 → jk Z v3 15 → K23 v1 v2 v3 v4 Z I L → jJ G 8 23 [(0, .ref b), (1, .ref v1), (2, .ref v2), (3, .ref v3), (4, .int v4)] [] Z I L (k9 + (jcz Z - jcz Z5) + 27) (n9 + (jsz Z - jsz Z5) + 600)) (v1 : Nat) (v2 : Nat) (v3 : Nat) (v4 : Int32) (Z : jZ) (I : jI) (L : jL) (hZ : SH Z) (hx : jext Z0 Z) (hc : jle Z5 Z) (hb : jin B Z) (kv1 : jk Z v1 11) (kv2 : jk Z v2 12) (kv3 : jk Z v3 15) (h : f_L_law_b812 xs Ls B K23 v1 v2 v3 v4 Z I L) : jJ G 8 812 [(0, .ref b), (1, .ref v1), (2, .ref v2), (3, .ref v3), (4, .int v4)] [] Z I L (k9 + (jcz Z - jcz Z5) + 0) (n9 + (jsz Z - jsz Z5) + 0) := by
  unfold f_L_law_b812 at h
  refine j_aload_n E dL_law_812 1 rfl ?_
  refine j_aload_n E dL_law_813 0 rfl ?_
  refine j_iload E dL_law_814 4 rfl ?_
  refine j_iconst E (v := 1) dL_law_816 (by decide) ?_
  refine j_iadd E dL_law_817 ?_
  obtain ⟨o283, h⟩ := h
  refine j_sld E hX.1 hX.2.1 hX.2.2 o283 dL_law_818 ?_
  refine j_aload_n E dL_law_819 0 rfl ?_
  refine j_iload E dL_law_820 4 rfl ?_
  refine j_iconst E (v := 2) dL_law_822 (by decide) ?_
  refine j_iadd E dL_law_823 ?_
  obtain ⟨o284, h⟩ := h
  refine j_sld E hX.1 hX.2.1 hX.2.2 o284 dL_law_824 ?_
  refine j_callV E [.int (xs (v4 + (1 : Int32)).toNatClampNeg), .int (xs (v4 + (2 : Int32)).toNatClampNeg)] [] (c_X11_rests (gL G) (gD G) (gY G) v1 (xs (v4 + (1 : Int32)).toNatClampNeg) (xs (v4 + (2 : Int32)).toNatClampNeg) Z I L _ hZ kv1 h) (gwV W_1325 W_1326 W_1327 W_40 W_1324) rfl ⟨rfl, fy_X11_rests⟩ ⟨by decide, by decide⟩ (c := 11) rfl (by decide) kv1 rfl rfl (Nat.le_of_ble_eq_true rfl) ⟨by show k9 + (jcz Z - jcz Z5) + 0 + 0 ≤ 601024; have := hb.1; omega, by show n9 + (jsz Z - jsz Z5) + 0 + 0 ≤ 7293034; have := hb.2; omega⟩ dL_law_825 (fun v285 Z286 I287 L288 q289 => ?_)
  obtain ⟨rfl, r291, rfl, h⟩ := q289
  show jJ G 8 828 [(0, .ref b), (1, .ref v1), (2, .ref v2), (3, .ref v3), (4, .int v4)] [.int r291] Z I287 L288 (k9 + (jcz Z - jcz Z5) + 0) (n9 + (jsz Z - jsz Z5) + 0)
  refine j_pop E dL_law_828 rfl ?_
  refine j_aload_n E dL_law_829 2 rfl ?_
  refine j_aload_n E dL_law_830 0 rfl ?_
  refine j_iload E dL_law_831 4 rfl ?_
  refine j_iconst E (v := 1) dL_law_833 (by decide) ?_
  refine j_iadd E dL_law_834 ?_
  obtain ⟨o292, h⟩ := h
  refine j_sld E hX.1 hX.2.1 hX.2.2 o292 dL_law_835 ?_
  refine j_aload_n E dL_law_836 0 rfl ?_
  refine j_iload E dL_law_837 4 rfl ?_
  refine j_iconst E (v := 2) dL_law_839 (by decide) ?_
  refine j_iadd E dL_law_840 ?_
  obtain ⟨o293, h⟩ := h
  refine j_sld E hX.1 hX.2.1 hX.2.2 o293 dL_law_841 ?_
  refine ju_callV E [.int (xs (v4 + (1 : Int32)).toNatClampNeg), .int (xs (v4 + (2 : Int32)).toNatClampNeg)] [] (c_X12_rests (gL G) (gD G) (gY G) B v2 (xs (v4 + (1 : Int32)).toNatClampNeg) (xs (v4 + (2 : Int32)).toNatClampNeg) Z I287 L288 _ hZ hb kv2 h) (gwV W_1329 W_1330 W_1331 W_695 W_1328) rfl ⟨rfl, fy_X12_rests⟩ ⟨by decide, by decide⟩ (c := 12) rfl (by decide) kv2 rfl rfl (Nat.le_of_ble_eq_true rfl) ⟨by show k9 + (jcz Z - jcz Z5) + 0 + (B.1 - jcz Z) ≤ 601024; have := hb.1; have := hc.1; omega, by show n9 + (jsz Z - jsz Z5) + 0 + (B.2 - jsz Z) ≤ 7293034; have := hb.2; have := hc.2; omega⟩ dL_law_842 (fun v294 Z295 I296 L297 q298 j299 => ?_)
  refine j_kn (k' := k9 + (jcz Z295 - jcz Z5) + 0) (n' := n9 + (jsz Z295 - jsz Z5) + 0) (by have := hc.1; have := j299.1; omega) (by have := hc.2; have := j299.2; omega) ?_
  have hc := jle_trans hc j299
  obtain ⟨yZ295, hZ295, hbZ295, r300, rfl, h⟩ := q298
  have hZ := hZ295
  have hx : jext Z0 Z295 := jext_trans hx yZ295
  have hb := hbZ295
  have k301 := (yZ295 _ _ kv1).1
  have k302 := (yZ295 _ _ kv2).1
  have k303 := (yZ295 _ _ kv3).1
  show jJ G 8 845 [(0, .ref b), (1, .ref v1), (2, .ref v2), (3, .ref v3), (4, .int v4)] [.int r300] Z295 I296 L297 (k9 + (jcz Z295 - jcz Z5) + 0) (n9 + (jsz Z295 - jsz Z5) + 0)
  refine j_pop E dL_law_845 rfl ?_
  refine j_goto E 1760 dL_law_846 (by decide) ?_
  refine j_sub [0, 1, 2, 3, 4] rfl ?_
  refine j_widen (k9 := k9 + (jcz Z295 - jcz Z5) + 27) (n9 := n9 + (jsz Z295 - jsz Z5) + 600) (by show k9 + (jcz Z295 - jcz Z5) + 0 ≤ _; omega) (by show n9 + (jsz Z295 - jsz Z5) + 0 ≤ _; omega) ?_
  exact m_L_law_b1760 E hX hV hU hl0 hb9 hn9 K23 hK23 v1 v2 v3 v4 Z295 I296 L297 hZ hx hc hb k301 k302 k303 h
set_option maxRecDepth 100000 in
def f_L_law_b849 (xs : Nat → Int32) (Ls : Nat) (B : Nat × Nat) (K23 : Nat → Nat → Nat → Int32 → jZ → jI → jL → Prop) (v1 : Nat) (v2 : Nat) (v3 : Nat) (v4 : Int32) (Z : jZ) (I : jI) (L : jL) : Prop := (vp_in (v4 + (1 : Int32)) Ls ∧ (f_X11_returns v1 (xs (v4 + (1 : Int32)).toNatClampNeg) Z I L (fun r311 I307 L308 => (vp_in (v4 + (1 : Int32)) Ls ∧ (f_X12_returns v2 (xs (v4 + (1 : Int32)).toNatClampNeg) Z I307 L308 (fun r319 I315 L316 => f_L_law_b1760 xs Ls B K23 v1 v2 v3 v4 Z I315 L316))))))
set_option maxHeartbeats 4000000 in
set_option maxRecDepth 100000 in
theorem m_L_law_b849 {G : jG} {Z0 : jZ} {xs : Nat → Int32} {Ls b k9 n9 sa sb : Nat} {B : Nat × Nat} {Z5 : jZ} (E : jE G cL_law RL (Cond.arrayClass .byte :: jT) 8 (some .boolean) room_1 jRL) (hX : va_X b Ls xs (gS G) (gS G).heap ∧ b < (gS G).heap.size ∧ ¬ gA G b) (hV : jV (gA G) (gS G) (gS G).heap) (hU : jU sa sb (gA G) (gS G) (gS G).heap) (hl0 : (gL G).stackTraces = false) (hb9 : k9 + 27 + (B.1 - jcz Z5) ≤ 601024) (hn9 : n9 + 600 + (B.2 - jsz Z5) ≤ 7293034) (K23 : Nat → Nat → Nat → Int32 → jZ → jI → jL → Prop) (hK23 : ∀ (v1 : Nat) (v2 : Nat) (v3 : Nat) (v4 : Int32) (Z : jZ) (I : jI) (L : jL), SH Z → jext Z0 Z → jle Z5 Z → jin B Z → jk Z v1 11 → jk Z v2 12 → jk Z v3 15 → K23 v1 v2 v3 v4 Z I L → jJ G 8 23 [(0, .ref b), (1, .ref v1), (2, .ref v2), (3, .ref v3), (4, .int v4)] [] Z I L (k9 + (jcz Z - jcz Z5) + 27) (n9 + (jsz Z - jsz Z5) + 600)) (v1 : Nat) (v2 : Nat) (v3 : Nat) (v4 : Int32) (Z : jZ) (I : jI) (L : jL) (hZ : SH Z) (hx : jext Z0 Z) (hc : jle Z5 Z) (hb : jin B Z) (kv1 : jk Z v1 11) (kv2 : jk Z v2 12) (kv3 : jk Z v3 15) (h : f_L_law_b849 xs Ls B K23 v1 v2 v3 v4 Z I L) : jJ G 8 849 [(0, .ref b), (1, .ref v1), (2, .ref v2), (3, .ref v3), (4, .int v4)] [] Z I L (k9 + (jcz Z - jcz Z5) + 0) (n9 + (jsz Z - jsz Z5) + 0) := by
  unfold f_L_law_b849 at h
  refine j_aload_n E dL_law_849 1 rfl ?_
  refine j_aload_n E dL_law_850 0 rfl ?_
  refine j_iload E dL_law_851 4 rfl ?_
  refine j_iconst E (v := 1) dL_law_853 (by decide) ?_
  refine j_iadd E dL_law_854 ?_
  obtain ⟨o304, h⟩ := h
  refine j_sld E hX.1 hX.2.1 hX.2.2 o304 dL_law_855 ?_
  refine j_callV E [.int (xs (v4 + (1 : Int32)).toNatClampNeg)] [] (c_X11_returns (gL G) (gD G) (gY G) v1 (xs (v4 + (1 : Int32)).toNatClampNeg) Z I L _ hZ kv1 h) (gwV W_1333 W_1334 W_1335 W_40 W_1332) rfl ⟨rfl, fy_X11_returns⟩ ⟨by decide, by decide⟩ (c := 11) rfl (by decide) kv1 rfl rfl (Nat.le_of_ble_eq_true rfl) ⟨by show k9 + (jcz Z - jcz Z5) + 0 + 0 ≤ 601024; have := hb.1; omega, by show n9 + (jsz Z - jsz Z5) + 0 + 0 ≤ 7293034; have := hb.2; omega⟩ dL_law_856 (fun v305 Z306 I307 L308 q309 => ?_)
  obtain ⟨rfl, r311, rfl, h⟩ := q309
  show jJ G 8 859 [(0, .ref b), (1, .ref v1), (2, .ref v2), (3, .ref v3), (4, .int v4)] [.int r311] Z I307 L308 (k9 + (jcz Z - jcz Z5) + 0) (n9 + (jsz Z - jsz Z5) + 0)
  refine j_pop E dL_law_859 rfl ?_
  refine j_aload_n E dL_law_860 2 rfl ?_
  refine j_aload_n E dL_law_861 0 rfl ?_
  refine j_iload E dL_law_862 4 rfl ?_
  refine j_iconst E (v := 1) dL_law_864 (by decide) ?_
  refine j_iadd E dL_law_865 ?_
  obtain ⟨o312, h⟩ := h
  refine j_sld E hX.1 hX.2.1 hX.2.2 o312 dL_law_866 ?_
  refine j_callV E [.int (xs (v4 + (1 : Int32)).toNatClampNeg)] [] (c_X12_returns (gL G) (gD G) (gY G) v2 (xs (v4 + (1 : Int32)).toNatClampNeg) Z I307 L308 _ hZ kv2 h) (gwV W_1337 W_1338 W_1339 W_695 W_1336) rfl ⟨rfl, fy_X12_returns⟩ ⟨by decide, by decide⟩ (c := 12) rfl (by decide) kv2 rfl rfl (Nat.le_of_ble_eq_true rfl) ⟨by show k9 + (jcz Z - jcz Z5) + 0 + 0 ≤ 601024; have := hb.1; omega, by show n9 + (jsz Z - jsz Z5) + 0 + 0 ≤ 7293034; have := hb.2; omega⟩ dL_law_867 (fun v313 Z314 I315 L316 q317 => ?_)
  obtain ⟨rfl, r319, rfl, h⟩ := q317
  show jJ G 8 870 [(0, .ref b), (1, .ref v1), (2, .ref v2), (3, .ref v3), (4, .int v4)] [.int r319] Z I315 L316 (k9 + (jcz Z - jcz Z5) + 0) (n9 + (jsz Z - jsz Z5) + 0)
  refine j_pop E dL_law_870 rfl ?_
  refine j_goto E 1760 dL_law_871 (by decide) ?_
  refine j_sub [0, 1, 2, 3, 4] rfl ?_
  refine j_widen (k9 := k9 + (jcz Z - jcz Z5) + 27) (n9 := n9 + (jsz Z - jsz Z5) + 600) (by show k9 + (jcz Z - jcz Z5) + 0 ≤ _; omega) (by show n9 + (jsz Z - jsz Z5) + 0 ≤ _; omega) ?_
  exact m_L_law_b1760 E hX hV hU hl0 hb9 hn9 K23 hK23 v1 v2 v3 v4 Z I315 L316 hZ hx hc hb kv1 kv2 kv3 h
set_option maxRecDepth 100000 in
def f_L_law_b874 (xs : Nat → Int32) (Ls : Nat) (B : Nat × Nat) (K23 : Nat → Nat → Nat → Int32 → jZ → jI → jL → Prop) (v1 : Nat) (v2 : Nat) (v3 : Nat) (v4 : Int32) (Z : jZ) (I : jI) (L : jL) : Prop := (vp_in (v4 + (1 : Int32)) Ls ∧ (f_X11_earned v1 (xs (v4 + (1 : Int32)).toNatClampNeg) Z I L (fun r327 I323 L324 => (vp_in (v4 + (1 : Int32)) Ls ∧ (f_X12_earned v2 (xs (v4 + (1 : Int32)).toNatClampNeg) Z I323 L324 (fun r335 I331 L332 => f_L_law_b1760 xs Ls B K23 v1 v2 v3 v4 Z I331 L332))))))
set_option maxHeartbeats 4000000 in
set_option maxRecDepth 100000 in
theorem m_L_law_b874 {G : jG} {Z0 : jZ} {xs : Nat → Int32} {Ls b k9 n9 sa sb : Nat} {B : Nat × Nat} {Z5 : jZ} (E : jE G cL_law RL (Cond.arrayClass .byte :: jT) 8 (some .boolean) room_1 jRL) (hX : va_X b Ls xs (gS G) (gS G).heap ∧ b < (gS G).heap.size ∧ ¬ gA G b) (hV : jV (gA G) (gS G) (gS G).heap) (hU : jU sa sb (gA G) (gS G) (gS G).heap) (hl0 : (gL G).stackTraces = false) (hb9 : k9 + 27 + (B.1 - jcz Z5) ≤ 601024) (hn9 : n9 + 600 + (B.2 - jsz Z5) ≤ 7293034) (K23 : Nat → Nat → Nat → Int32 → jZ → jI → jL → Prop) (hK23 : ∀ (v1 : Nat) (v2 : Nat) (v3 : Nat) (v4 : Int32) (Z : jZ) (I : jI) (L : jL), SH Z → jext Z0 Z → jle Z5 Z → jin B Z → jk Z v1 11 → jk Z v2 12 → jk Z v3 15 → K23 v1 v2 v3 v4 Z I L → jJ G 8 23 [(0, .ref b), (1, .ref v1), (2, .ref v2), (3, .ref v3), (4, .int v4)] [] Z I L (k9 + (jcz Z - jcz Z5) + 27) (n9 + (jsz Z - jsz Z5) + 600)) (v1 : Nat) (v2 : Nat) (v3 : Nat) (v4 : Int32) (Z : jZ) (I : jI) (L : jL) (hZ : SH Z) (hx : jext Z0 Z) (hc : jle Z5 Z) (hb : jin B Z) (kv1 : jk Z v1 11) (kv2 : jk Z v2 12) (kv3 : jk Z v3 15) (h : f_L_law_b874 xs Ls B K23 v1 v2 v3 v4 Z I L) : jJ G 8 874 [(0, .ref b), (1, .ref v1), (2, .ref v2), (3, .ref v3), (4, .int v4)] [] Z I L (k9 + (jcz Z - jcz Z5) + 0) (n9 + (jsz Z - jsz Z5) + 0) := by
  unfold f_L_law_b874 at h
  refine j_aload_n E dL_law_874 1 rfl ?_
  refine j_aload_n E dL_law_875 0 rfl ?_
  refine j_iload E dL_law_876 4 rfl ?_
  refine j_iconst E (v := 1) dL_law_878 (by decide) ?_
  refine j_iadd E dL_law_879 ?_
  obtain ⟨o320, h⟩ := h
  refine j_sld E hX.1 hX.2.1 hX.2.2 o320 dL_law_880 ?_
  refine j_callV E [.int (xs (v4 + (1 : Int32)).toNatClampNeg)] [] (c_X11_earned (gL G) (gD G) (gY G) v1 (xs (v4 + (1 : Int32)).toNatClampNeg) Z I L _ hZ kv1 h) (gwV W_1341 W_1342 W_1343 W_40 W_1340) rfl ⟨rfl, fy_X11_earned⟩ ⟨by decide, by decide⟩ (c := 11) rfl (by decide) kv1 rfl rfl (Nat.le_of_ble_eq_true rfl) ⟨by show k9 + (jcz Z - jcz Z5) + 0 + 0 ≤ 601024; have := hb.1; omega, by show n9 + (jsz Z - jsz Z5) + 0 + 0 ≤ 7293034; have := hb.2; omega⟩ dL_law_881 (fun v321 Z322 I323 L324 q325 => ?_)
  obtain ⟨rfl, r327, rfl, h⟩ := q325
  show jJ G 8 884 [(0, .ref b), (1, .ref v1), (2, .ref v2), (3, .ref v3), (4, .int v4)] [.int r327] Z I323 L324 (k9 + (jcz Z - jcz Z5) + 0) (n9 + (jsz Z - jsz Z5) + 0)
  refine j_pop E dL_law_884 rfl ?_
  refine j_aload_n E dL_law_885 2 rfl ?_
  refine j_aload_n E dL_law_886 0 rfl ?_
  refine j_iload E dL_law_887 4 rfl ?_
  refine j_iconst E (v := 1) dL_law_889 (by decide) ?_
  refine j_iadd E dL_law_890 ?_
  obtain ⟨o328, h⟩ := h
  refine j_sld E hX.1 hX.2.1 hX.2.2 o328 dL_law_891 ?_
  refine j_callV E [.int (xs (v4 + (1 : Int32)).toNatClampNeg)] [] (c_X12_earned (gL G) (gD G) (gY G) v2 (xs (v4 + (1 : Int32)).toNatClampNeg) Z I323 L324 _ hZ kv2 h) (gwV W_1345 W_1346 W_1347 W_695 W_1344) rfl ⟨rfl, fy_X12_earned⟩ ⟨by decide, by decide⟩ (c := 12) rfl (by decide) kv2 rfl rfl (Nat.le_of_ble_eq_true rfl) ⟨by show k9 + (jcz Z - jcz Z5) + 0 + 0 ≤ 601024; have := hb.1; omega, by show n9 + (jsz Z - jsz Z5) + 0 + 0 ≤ 7293034; have := hb.2; omega⟩ dL_law_892 (fun v329 Z330 I331 L332 q333 => ?_)
  obtain ⟨rfl, r335, rfl, h⟩ := q333
  show jJ G 8 895 [(0, .ref b), (1, .ref v1), (2, .ref v2), (3, .ref v3), (4, .int v4)] [.int r335] Z I331 L332 (k9 + (jcz Z - jcz Z5) + 0) (n9 + (jsz Z - jsz Z5) + 0)
  refine j_pop E dL_law_895 rfl ?_
  refine j_goto E 1760 dL_law_896 (by decide) ?_
  refine j_sub [0, 1, 2, 3, 4] rfl ?_
  refine j_widen (k9 := k9 + (jcz Z - jcz Z5) + 27) (n9 := n9 + (jsz Z - jsz Z5) + 600) (by show k9 + (jcz Z - jcz Z5) + 0 ≤ _; omega) (by show n9 + (jsz Z - jsz Z5) + 0 ≤ _; omega) ?_
  exact m_L_law_b1760 E hX hV hU hl0 hb9 hn9 K23 hK23 v1 v2 v3 v4 Z I331 L332 hZ hx hc hb kv1 kv2 kv3 h
set_option maxRecDepth 100000 in
def f_L_law_b899 (xs : Nat → Int32) (Ls : Nat) (B : Nat × Nat) (K23 : Nat → Nat → Nat → Int32 → jZ → jI → jL → Prop) (v1 : Nat) (v2 : Nat) (v3 : Nat) (v4 : Int32) (Z : jZ) (I : jI) (L : jL) : Prop := (vp_in (v4 + (1 : Int32)) Ls ∧ (f_X11_climb B v1 (xs (v4 + (1 : Int32)).toNatClampNeg) Z I L (fun r343 Z338 I339 L340 => (vp_in (v4 + (1 : Int32)) Ls ∧ (f_X12_climb B v2 (xs (v4 + (1 : Int32)).toNatClampNeg) Z338 I339 L340 (fun r354 Z349 I350 L351 => f_L_law_b1760 xs Ls B K23 v1 v2 v3 v4 Z349 I350 L351))))))
set_option maxHeartbeats 4000000 in
set_option maxRecDepth 100000 in
theorem m_L_law_b899 {G : jG} {Z0 : jZ} {xs : Nat → Int32} {Ls b k9 n9 sa sb : Nat} {B : Nat × Nat} {Z5 : jZ} (E : jE G cL_law RL (Cond.arrayClass .byte :: jT) 8 (some .boolean) room_1 jRL) (hX : va_X b Ls xs (gS G) (gS G).heap ∧ b < (gS G).heap.size ∧ ¬ gA G b) (hV : jV (gA G) (gS G) (gS G).heap) (hU : jU sa sb (gA G) (gS G) (gS G).heap) (hl0 : (gL G).stackTraces = false) (hb9 : k9 + 27 + (B.1 - jcz Z5) ≤ 601024) (hn9 : n9 + 600 + (B.2 - jsz Z5) ≤ 7293034) (K23 : Nat → Nat → Nat → Int32 → jZ → jI → jL → Prop) (hK23 : ∀ (v1 : Nat) (v2 : Nat) (v3 : Nat) (v4 : Int32) (Z : jZ) (I : jI) (L : jL), SH Z → jext Z0 Z → jle Z5 Z → jin B Z → jk Z v1 11 → jk Z v2 12 → jk Z v3 15 → K23 v1 v2 v3 v4 Z I L → jJ G 8 23 [(0, .ref b), (1, .ref v1), (2, .ref v2), (3, .ref v3), (4, .int v4)] [] Z I L (k9 + (jcz Z - jcz Z5) + 27) (n9 + (jsz Z - jsz Z5) + 600)) (v1 : Nat) (v2 : Nat) (v3 : Nat) (v4 : Int32) (Z : jZ) (I : jI) (L : jL) (hZ : SH Z) (hx : jext Z0 Z) (hc : jle Z5 Z) (hb : jin B Z) (kv1 : jk Z v1 11) (kv2 : jk Z v2 12) (kv3 : jk Z v3 15) (h : f_L_law_b899 xs Ls B K23 v1 v2 v3 v4 Z I L) : jJ G 8 899 [(0, .ref b), (1, .ref v1), (2, .ref v2), (3, .ref v3), (4, .int v4)] [] Z I L (k9 + (jcz Z - jcz Z5) + 0) (n9 + (jsz Z - jsz Z5) + 0) := by
  unfold f_L_law_b899 at h
  refine j_aload_n E dL_law_899 1 rfl ?_
  refine j_aload_n E dL_law_900 0 rfl ?_
  refine j_iload E dL_law_901 4 rfl ?_
  refine j_iconst E (v := 1) dL_law_903 (by decide) ?_
  refine j_iadd E dL_law_904 ?_
  obtain ⟨o336, h⟩ := h
  refine j_sld E hX.1 hX.2.1 hX.2.2 o336 dL_law_905 ?_
  refine ju_callV E [.int (xs (v4 + (1 : Int32)).toNatClampNeg)] [] (c_X11_climb (gL G) (gD G) (gY G) B v1 (xs (v4 + (1 : Int32)).toNatClampNeg) Z I L _ hZ hb kv1 h) (gwV W_1349 W_1350 W_1351 W_40 W_1348) rfl ⟨rfl, fy_X11_climb⟩ ⟨by decide, by decide⟩ (c := 11) rfl (by decide) kv1 rfl rfl (Nat.le_of_ble_eq_true rfl) ⟨by show k9 + (jcz Z - jcz Z5) + 0 + (B.1 - jcz Z) ≤ 601024; have := hb.1; have := hc.1; omega, by show n9 + (jsz Z - jsz Z5) + 0 + (B.2 - jsz Z) ≤ 7293034; have := hb.2; have := hc.2; omega⟩ dL_law_906 (fun v337 Z338 I339 L340 q341 j342 => ?_)
  refine j_kn (k' := k9 + (jcz Z338 - jcz Z5) + 0) (n' := n9 + (jsz Z338 - jsz Z5) + 0) (by have := hc.1; have := j342.1; omega) (by have := hc.2; have := j342.2; omega) ?_
  have hc := jle_trans hc j342
  obtain ⟨yZ338, hZ338, hbZ338, r343, rfl, h⟩ := q341
  have hZ := hZ338
  have hx : jext Z0 Z338 := jext_trans hx yZ338
  have hb := hbZ338
  have k344 := (yZ338 _ _ kv1).1
  have k345 := (yZ338 _ _ kv2).1
  have k346 := (yZ338 _ _ kv3).1
  show jJ G 8 909 [(0, .ref b), (1, .ref v1), (2, .ref v2), (3, .ref v3), (4, .int v4)] [.int r343] Z338 I339 L340 (k9 + (jcz Z338 - jcz Z5) + 0) (n9 + (jsz Z338 - jsz Z5) + 0)
  refine j_pop E dL_law_909 rfl ?_
  refine j_aload_n E dL_law_910 2 rfl ?_
  refine j_aload_n E dL_law_911 0 rfl ?_
  refine j_iload E dL_law_912 4 rfl ?_
  refine j_iconst E (v := 1) dL_law_914 (by decide) ?_
  refine j_iadd E dL_law_915 ?_
  obtain ⟨o347, h⟩ := h
  refine j_sld E hX.1 hX.2.1 hX.2.2 o347 dL_law_916 ?_
  refine ju_callV E [.int (xs (v4 + (1 : Int32)).toNatClampNeg)] [] (c_X12_climb (gL G) (gD G) (gY G) B v2 (xs (v4 + (1 : Int32)).toNatClampNeg) Z338 I339 L340 _ hZ hb k345 h) (gwV W_1353 W_1354 W_1355 W_695 W_1352) rfl ⟨rfl, fy_X12_climb⟩ ⟨by decide, by decide⟩ (c := 12) rfl (by decide) k345 rfl rfl (Nat.le_of_ble_eq_true rfl) ⟨by show k9 + (jcz Z338 - jcz Z5) + 0 + (B.1 - jcz Z338) ≤ 601024; have := hb.1; have := hc.1; omega, by show n9 + (jsz Z338 - jsz Z5) + 0 + (B.2 - jsz Z338) ≤ 7293034; have := hb.2; have := hc.2; omega⟩ dL_law_917 (fun v348 Z349 I350 L351 q352 j353 => ?_)
  refine j_kn (k' := k9 + (jcz Z349 - jcz Z5) + 0) (n' := n9 + (jsz Z349 - jsz Z5) + 0) (by have := hc.1; have := j353.1; omega) (by have := hc.2; have := j353.2; omega) ?_
  have hc := jle_trans hc j353
  obtain ⟨yZ349, hZ349, hbZ349, r354, rfl, h⟩ := q352
  have hZ := hZ349
  have hx : jext Z0 Z349 := jext_trans hx yZ349
  have hb := hbZ349
  have k355 := (yZ349 _ _ k344).1
  have k356 := (yZ349 _ _ k345).1
  have k357 := (yZ349 _ _ k346).1
  show jJ G 8 920 [(0, .ref b), (1, .ref v1), (2, .ref v2), (3, .ref v3), (4, .int v4)] [.int r354] Z349 I350 L351 (k9 + (jcz Z349 - jcz Z5) + 0) (n9 + (jsz Z349 - jsz Z5) + 0)
  refine j_pop E dL_law_920 rfl ?_
  refine j_goto E 1760 dL_law_921 (by decide) ?_
  refine j_sub [0, 1, 2, 3, 4] rfl ?_
  refine j_widen (k9 := k9 + (jcz Z349 - jcz Z5) + 27) (n9 := n9 + (jsz Z349 - jsz Z5) + 600) (by show k9 + (jcz Z349 - jcz Z5) + 0 ≤ _; omega) (by show n9 + (jsz Z349 - jsz Z5) + 0 ≤ _; omega) ?_
  exact m_L_law_b1760 E hX hV hU hl0 hb9 hn9 K23 hK23 v1 v2 v3 v4 Z349 I350 L351 hZ hx hc hb k355 k356 k357 h
set_option maxRecDepth 100000 in
def f_L_law_b924 (xs : Nat → Int32) (Ls : Nat) (B : Nat × Nat) (K23 : Nat → Nat → Nat → Int32 → jZ → jI → jL → Prop) (v1 : Nat) (v2 : Nat) (v3 : Nat) (v4 : Int32) (Z : jZ) (I : jI) (L : jL) : Prop := (vp_in (v4 + (1 : Int32)) Ls ∧ (f_X11_knees B v1 (xs (v4 + (1 : Int32)).toNatClampNeg) Z I L (fun r365 Z360 I361 L362 => (vp_in (v4 + (1 : Int32)) Ls ∧ (f_X12_knees B v2 (xs (v4 + (1 : Int32)).toNatClampNeg) Z360 I361 L362 (fun r376 Z371 I372 L373 => f_L_law_b1760 xs Ls B K23 v1 v2 v3 v4 Z371 I372 L373))))))
set_option maxHeartbeats 4000000 in
set_option maxRecDepth 100000 in
theorem m_L_law_b924 {G : jG} {Z0 : jZ} {xs : Nat → Int32} {Ls b k9 n9 sa sb : Nat} {B : Nat × Nat} {Z5 : jZ} (E : jE G cL_law RL (Cond.arrayClass .byte :: jT) 8 (some .boolean) room_1 jRL) (hX : va_X b Ls xs (gS G) (gS G).heap ∧ b < (gS G).heap.size ∧ ¬ gA G b) (hV : jV (gA G) (gS G) (gS G).heap) (hU : jU sa sb (gA G) (gS G) (gS G).heap) (hl0 : (gL G).stackTraces = false) (hb9 : k9 + 27 + (B.1 - jcz Z5) ≤ 601024) (hn9 : n9 + 600 + (B.2 - jsz Z5) ≤ 7293034) (K23 : Nat → Nat → Nat → Int32 → jZ → jI → jL → Prop) (hK23 : ∀ (v1 : Nat) (v2 : Nat) (v3 : Nat) (v4 : Int32) (Z : jZ) (I : jI) (L : jL), SH Z → jext Z0 Z → jle Z5 Z → jin B Z → jk Z v1 11 → jk Z v2 12 → jk Z v3 15 → K23 v1 v2 v3 v4 Z I L → jJ G 8 23 [(0, .ref b), (1, .ref v1), (2, .ref v2), (3, .ref v3), (4, .int v4)] [] Z I L (k9 + (jcz Z - jcz Z5) + 27) (n9 + (jsz Z - jsz Z5) + 600)) (v1 : Nat) (v2 : Nat) (v3 : Nat) (v4 : Int32) (Z : jZ) (I : jI) (L : jL) (hZ : SH Z) (hx : jext Z0 Z) (hc : jle Z5 Z) (hb : jin B Z) (kv1 : jk Z v1 11) (kv2 : jk Z v2 12) (kv3 : jk Z v3 15) (h : f_L_law_b924 xs Ls B K23 v1 v2 v3 v4 Z I L) : jJ G 8 924 [(0, .ref b), (1, .ref v1), (2, .ref v2), (3, .ref v3), (4, .int v4)] [] Z I L (k9 + (jcz Z - jcz Z5) + 0) (n9 + (jsz Z - jsz Z5) + 0) := by
  unfold f_L_law_b924 at h
  refine j_aload_n E dL_law_924 1 rfl ?_
  refine j_aload_n E dL_law_925 0 rfl ?_
  refine j_iload E dL_law_926 4 rfl ?_
  refine j_iconst E (v := 1) dL_law_928 (by decide) ?_
  refine j_iadd E dL_law_929 ?_
  obtain ⟨o358, h⟩ := h
  refine j_sld E hX.1 hX.2.1 hX.2.2 o358 dL_law_930 ?_
  refine ju_callV E [.int (xs (v4 + (1 : Int32)).toNatClampNeg)] [] (c_X11_knees (gL G) (gD G) (gY G) B v1 (xs (v4 + (1 : Int32)).toNatClampNeg) Z I L _ hZ hb kv1 h) (gwV W_1357 W_1358 W_1359 W_40 W_1356) rfl ⟨rfl, fy_X11_knees⟩ ⟨by decide, by decide⟩ (c := 11) rfl (by decide) kv1 rfl rfl (Nat.le_of_ble_eq_true rfl) ⟨by show k9 + (jcz Z - jcz Z5) + 0 + (B.1 - jcz Z) ≤ 601024; have := hb.1; have := hc.1; omega, by show n9 + (jsz Z - jsz Z5) + 0 + (B.2 - jsz Z) ≤ 7293034; have := hb.2; have := hc.2; omega⟩ dL_law_931 (fun v359 Z360 I361 L362 q363 j364 => ?_)
  refine j_kn (k' := k9 + (jcz Z360 - jcz Z5) + 0) (n' := n9 + (jsz Z360 - jsz Z5) + 0) (by have := hc.1; have := j364.1; omega) (by have := hc.2; have := j364.2; omega) ?_
  have hc := jle_trans hc j364
  obtain ⟨yZ360, hZ360, hbZ360, r365, rfl, h⟩ := q363
  have hZ := hZ360
  have hx : jext Z0 Z360 := jext_trans hx yZ360
  have hb := hbZ360
  have k366 := (yZ360 _ _ kv1).1
  have k367 := (yZ360 _ _ kv2).1
  have k368 := (yZ360 _ _ kv3).1
  show jJ G 8 934 [(0, .ref b), (1, .ref v1), (2, .ref v2), (3, .ref v3), (4, .int v4)] [.int r365] Z360 I361 L362 (k9 + (jcz Z360 - jcz Z5) + 0) (n9 + (jsz Z360 - jsz Z5) + 0)
  refine j_pop E dL_law_934 rfl ?_
  refine j_aload_n E dL_law_935 2 rfl ?_
  refine j_aload_n E dL_law_936 0 rfl ?_
  refine j_iload E dL_law_937 4 rfl ?_
  refine j_iconst E (v := 1) dL_law_939 (by decide) ?_
  refine j_iadd E dL_law_940 ?_
  obtain ⟨o369, h⟩ := h
  refine j_sld E hX.1 hX.2.1 hX.2.2 o369 dL_law_941 ?_
  refine ju_callV E [.int (xs (v4 + (1 : Int32)).toNatClampNeg)] [] (c_X12_knees (gL G) (gD G) (gY G) B v2 (xs (v4 + (1 : Int32)).toNatClampNeg) Z360 I361 L362 _ hZ hb k367 h) (gwV W_1361 W_1362 W_1363 W_695 W_1360) rfl ⟨rfl, fy_X12_knees⟩ ⟨by decide, by decide⟩ (c := 12) rfl (by decide) k367 rfl rfl (Nat.le_of_ble_eq_true rfl) ⟨by show k9 + (jcz Z360 - jcz Z5) + 0 + (B.1 - jcz Z360) ≤ 601024; have := hb.1; have := hc.1; omega, by show n9 + (jsz Z360 - jsz Z5) + 0 + (B.2 - jsz Z360) ≤ 7293034; have := hb.2; have := hc.2; omega⟩ dL_law_942 (fun v370 Z371 I372 L373 q374 j375 => ?_)
  refine j_kn (k' := k9 + (jcz Z371 - jcz Z5) + 0) (n' := n9 + (jsz Z371 - jsz Z5) + 0) (by have := hc.1; have := j375.1; omega) (by have := hc.2; have := j375.2; omega) ?_
  have hc := jle_trans hc j375
  obtain ⟨yZ371, hZ371, hbZ371, r376, rfl, h⟩ := q374
  have hZ := hZ371
  have hx : jext Z0 Z371 := jext_trans hx yZ371
  have hb := hbZ371
  have k377 := (yZ371 _ _ k366).1
  have k378 := (yZ371 _ _ k367).1
  have k379 := (yZ371 _ _ k368).1
  show jJ G 8 945 [(0, .ref b), (1, .ref v1), (2, .ref v2), (3, .ref v3), (4, .int v4)] [.int r376] Z371 I372 L373 (k9 + (jcz Z371 - jcz Z5) + 0) (n9 + (jsz Z371 - jsz Z5) + 0)
  refine j_pop E dL_law_945 rfl ?_
  refine j_goto E 1760 dL_law_946 (by decide) ?_
  refine j_sub [0, 1, 2, 3, 4] rfl ?_
  refine j_widen (k9 := k9 + (jcz Z371 - jcz Z5) + 27) (n9 := n9 + (jsz Z371 - jsz Z5) + 600) (by show k9 + (jcz Z371 - jcz Z5) + 0 ≤ _; omega) (by show n9 + (jsz Z371 - jsz Z5) + 0 ≤ _; omega) ?_
  exact m_L_law_b1760 E hX hV hU hl0 hb9 hn9 K23 hK23 v1 v2 v3 v4 Z371 I372 L373 hZ hx hc hb k377 k378 k379 h
set_option maxRecDepth 100000 in
def f_L_law_b949 (xs : Nat → Int32) (Ls : Nat) (B : Nat × Nat) (K23 : Nat → Nat → Nat → Int32 → jZ → jI → jL → Prop) (v1 : Nat) (v2 : Nat) (v3 : Nat) (v4 : Int32) (Z : jZ) (I : jI) (L : jL) : Prop := (vp_in (v4 + (1 : Int32)) Ls ∧ (vp_in (v4 + (2 : Int32)) Ls ∧ (f_X11_ways B v1 (xs (v4 + (1 : Int32)).toNatClampNeg) (xs (v4 + (2 : Int32)).toNatClampNeg) Z I L (fun r388 Z383 I384 L385 => (vp_in (v4 + (1 : Int32)) Ls ∧ (vp_in (v4 + (2 : Int32)) Ls ∧ (f_X12_ways B v2 (xs (v4 + (1 : Int32)).toNatClampNeg) (xs (v4 + (2 : Int32)).toNatClampNeg) Z383 I384 L385 (fun r400 Z395 I396 L397 => f_L_law_b1760 xs Ls B K23 v1 v2 v3 v4 Z395 I396 L397))))))))
set_option maxHeartbeats 4000000 in
set_option maxRecDepth 100000 in
theorem m_L_law_b949 {G : jG} {Z0 : jZ} {xs : Nat → Int32} {Ls b k9 n9 sa sb : Nat} {B : Nat × Nat} {Z5 : jZ} (E : jE G cL_law RL (Cond.arrayClass .byte :: jT) 8 (some .boolean) room_1 jRL) (hX : va_X b Ls xs (gS G) (gS G).heap ∧ b < (gS G).heap.size ∧ ¬ gA G b) (hV : jV (gA G) (gS G) (gS G).heap) (hU : jU sa sb (gA G) (gS G) (gS G).heap) (hl0 : (gL G).stackTraces = false) (hb9 : k9 + 27 + (B.1 - jcz Z5) ≤ 601024) (hn9 : n9 + 600 + (B.2 - jsz Z5) ≤ 7293034) (K23 : Nat → Nat → Nat → Int32 → jZ → jI → jL → Prop) (hK23 : ∀ (v1 : Nat) (v2 : Nat) (v3 : Nat) (v4 : Int32) (Z : jZ) (I : jI) (L : jL), SH Z → jext Z0 Z → jle Z5 Z → jin B Z → jk Z v1 11 → jk Z v2 12 → jk Z v3 15 → K23 v1 v2 v3 v4 Z I L → jJ G 8 23 [(0, .ref b), (1, .ref v1), (2, .ref v2), (3, .ref v3), (4, .int v4)] [] Z I L (k9 + (jcz Z - jcz Z5) + 27) (n9 + (jsz Z - jsz Z5) + 600)) (v1 : Nat) (v2 : Nat) (v3 : Nat) (v4 : Int32) (Z : jZ) (I : jI) (L : jL) (hZ : SH Z) (hx : jext Z0 Z) (hc : jle Z5 Z) (hb : jin B Z) (kv1 : jk Z v1 11) (kv2 : jk Z v2 12) (kv3 : jk Z v3 15) (h : f_L_law_b949 xs Ls B K23 v1 v2 v3 v4 Z I L) : jJ G 8 949 [(0, .ref b), (1, .ref v1), (2, .ref v2), (3, .ref v3), (4, .int v4)] [] Z I L (k9 + (jcz Z - jcz Z5) + 0) (n9 + (jsz Z - jsz Z5) + 0) := by
  unfold f_L_law_b949 at h
  refine j_aload_n E dL_law_949 1 rfl ?_
  refine j_aload_n E dL_law_950 0 rfl ?_
  refine j_iload E dL_law_951 4 rfl ?_
  refine j_iconst E (v := 1) dL_law_953 (by decide) ?_
  refine j_iadd E dL_law_954 ?_
  obtain ⟨o380, h⟩ := h
  refine j_sld E hX.1 hX.2.1 hX.2.2 o380 dL_law_955 ?_
  refine j_aload_n E dL_law_956 0 rfl ?_
  refine j_iload E dL_law_957 4 rfl ?_
  refine j_iconst E (v := 2) dL_law_959 (by decide) ?_
  refine j_iadd E dL_law_960 ?_
  obtain ⟨o381, h⟩ := h
  refine j_sld E hX.1 hX.2.1 hX.2.2 o381 dL_law_961 ?_
  refine ju_callV E [.int (xs (v4 + (1 : Int32)).toNatClampNeg), .int (xs (v4 + (2 : Int32)).toNatClampNeg)] [] (c_X11_ways (gL G) (gD G) (gY G) B v1 (xs (v4 + (1 : Int32)).toNatClampNeg) (xs (v4 + (2 : Int32)).toNatClampNeg) Z I L _ hZ hb kv1 h) (gwV W_1365 W_1366 W_1367 W_40 W_1364) rfl ⟨rfl, fy_X11_ways⟩ ⟨by decide, by decide⟩ (c := 11) rfl (by decide) kv1 rfl rfl (Nat.le_of_ble_eq_true rfl) ⟨by show k9 + (jcz Z - jcz Z5) + 0 + (B.1 - jcz Z) ≤ 601024; have := hb.1; have := hc.1; omega, by show n9 + (jsz Z - jsz Z5) + 0 + (B.2 - jsz Z) ≤ 7293034; have := hb.2; have := hc.2; omega⟩ dL_law_962 (fun v382 Z383 I384 L385 q386 j387 => ?_)
  refine j_kn (k' := k9 + (jcz Z383 - jcz Z5) + 0) (n' := n9 + (jsz Z383 - jsz Z5) + 0) (by have := hc.1; have := j387.1; omega) (by have := hc.2; have := j387.2; omega) ?_
  have hc := jle_trans hc j387
  obtain ⟨yZ383, hZ383, hbZ383, r388, rfl, h⟩ := q386
  have hZ := hZ383
  have hx : jext Z0 Z383 := jext_trans hx yZ383
  have hb := hbZ383
  have k389 := (yZ383 _ _ kv1).1
  have k390 := (yZ383 _ _ kv2).1
  have k391 := (yZ383 _ _ kv3).1
  show jJ G 8 965 [(0, .ref b), (1, .ref v1), (2, .ref v2), (3, .ref v3), (4, .int v4)] [.long r388] Z383 I384 L385 (k9 + (jcz Z383 - jcz Z5) + 0) (n9 + (jsz Z383 - jsz Z5) + 0)
  refine j_pop2 E dL_law_965 rfl ?_
  refine j_aload_n E dL_law_966 2 rfl ?_
  refine j_aload_n E dL_law_967 0 rfl ?_
  refine j_iload E dL_law_968 4 rfl ?_
  refine j_iconst E (v := 1) dL_law_970 (by decide) ?_
  refine j_iadd E dL_law_971 ?_
  obtain ⟨o392, h⟩ := h
  refine j_sld E hX.1 hX.2.1 hX.2.2 o392 dL_law_972 ?_
  refine j_aload_n E dL_law_973 0 rfl ?_
  refine j_iload E dL_law_974 4 rfl ?_
  refine j_iconst E (v := 2) dL_law_976 (by decide) ?_
  refine j_iadd E dL_law_977 ?_
  obtain ⟨o393, h⟩ := h
  refine j_sld E hX.1 hX.2.1 hX.2.2 o393 dL_law_978 ?_
  refine ju_callV E [.int (xs (v4 + (1 : Int32)).toNatClampNeg), .int (xs (v4 + (2 : Int32)).toNatClampNeg)] [] (c_X12_ways (gL G) (gD G) (gY G) B v2 (xs (v4 + (1 : Int32)).toNatClampNeg) (xs (v4 + (2 : Int32)).toNatClampNeg) Z383 I384 L385 _ hZ hb k390 h) (gwV W_1369 W_1370 W_1371 W_695 W_1368) rfl ⟨rfl, fy_X12_ways⟩ ⟨by decide, by decide⟩ (c := 12) rfl (by decide) k390 rfl rfl (Nat.le_of_ble_eq_true rfl) ⟨by show k9 + (jcz Z383 - jcz Z5) + 0 + (B.1 - jcz Z383) ≤ 601024; have := hb.1; have := hc.1; omega, by show n9 + (jsz Z383 - jsz Z5) + 0 + (B.2 - jsz Z383) ≤ 7293034; have := hb.2; have := hc.2; omega⟩ dL_law_979 (fun v394 Z395 I396 L397 q398 j399 => ?_)
  refine j_kn (k' := k9 + (jcz Z395 - jcz Z5) + 0) (n' := n9 + (jsz Z395 - jsz Z5) + 0) (by have := hc.1; have := j399.1; omega) (by have := hc.2; have := j399.2; omega) ?_
  have hc := jle_trans hc j399
  obtain ⟨yZ395, hZ395, hbZ395, r400, rfl, h⟩ := q398
  have hZ := hZ395
  have hx : jext Z0 Z395 := jext_trans hx yZ395
  have hb := hbZ395
  have k401 := (yZ395 _ _ k389).1
  have k402 := (yZ395 _ _ k390).1
  have k403 := (yZ395 _ _ k391).1
  show jJ G 8 982 [(0, .ref b), (1, .ref v1), (2, .ref v2), (3, .ref v3), (4, .int v4)] [.long r400] Z395 I396 L397 (k9 + (jcz Z395 - jcz Z5) + 0) (n9 + (jsz Z395 - jsz Z5) + 0)
  refine j_pop2 E dL_law_982 rfl ?_
  refine j_goto E 1760 dL_law_983 (by decide) ?_
  refine j_sub [0, 1, 2, 3, 4] rfl ?_
  refine j_widen (k9 := k9 + (jcz Z395 - jcz Z5) + 27) (n9 := n9 + (jsz Z395 - jsz Z5) + 600) (by show k9 + (jcz Z395 - jcz Z5) + 0 ≤ _; omega) (by show n9 + (jsz Z395 - jsz Z5) + 0 ≤ _; omega) ?_
  exact m_L_law_b1760 E hX hV hU hl0 hb9 hn9 K23 hK23 v1 v2 v3 v4 Z395 I396 L397 hZ hx hc hb k401 k402 k403 h
set_option maxRecDepth 100000 in
def f_L_law_b986 (xs : Nat → Int32) (Ls : Nat) (B : Nat × Nat) (K23 : Nat → Nat → Nat → Int32 → jZ → jI → jL → Prop) (v1 : Nat) (v2 : Nat) (v3 : Nat) (v4 : Int32) (Z : jZ) (I : jI) (L : jL) : Prop := (vp_in (v4 + (1 : Int32)) Ls ∧ (vp_in (v4 + (2 : Int32)) Ls ∧ (vp_in (v4 + (3 : Int32)) Ls ∧ (f_X11_trod B v1 (xs (v4 + (1 : Int32)).toNatClampNeg) (xs (v4 + (2 : Int32)).toNatClampNeg) (xs (v4 + (3 : Int32)).toNatClampNeg) Z I L (fun r413 Z408 I409 L410 => (vp_in (v4 + (1 : Int32)) Ls ∧ (vp_in (v4 + (2 : Int32)) Ls ∧ (vp_in (v4 + (3 : Int32)) Ls ∧ (f_X12_trod B v2 (xs (v4 + (1 : Int32)).toNatClampNeg) (xs (v4 + (2 : Int32)).toNatClampNeg) (xs (v4 + (3 : Int32)).toNatClampNeg) Z408 I409 L410 (fun r426 Z421 I422 L423 => f_L_law_b1760 xs Ls B K23 v1 v2 v3 v4 Z421 I422 L423))))))))))
set_option maxHeartbeats 4000000 in
set_option maxRecDepth 100000 in
theorem m_L_law_b986 {G : jG} {Z0 : jZ} {xs : Nat → Int32} {Ls b k9 n9 sa sb : Nat} {B : Nat × Nat} {Z5 : jZ} (E : jE G cL_law RL (Cond.arrayClass .byte :: jT) 8 (some .boolean) room_1 jRL) (hX : va_X b Ls xs (gS G) (gS G).heap ∧ b < (gS G).heap.size ∧ ¬ gA G b) (hV : jV (gA G) (gS G) (gS G).heap) (hU : jU sa sb (gA G) (gS G) (gS G).heap) (hl0 : (gL G).stackTraces = false) (hb9 : k9 + 27 + (B.1 - jcz Z5) ≤ 601024) (hn9 : n9 + 600 + (B.2 - jsz Z5) ≤ 7293034) (K23 : Nat → Nat → Nat → Int32 → jZ → jI → jL → Prop) (hK23 : ∀ (v1 : Nat) (v2 : Nat) (v3 : Nat) (v4 : Int32) (Z : jZ) (I : jI) (L : jL), SH Z → jext Z0 Z → jle Z5 Z → jin B Z → jk Z v1 11 → jk Z v2 12 → jk Z v3 15 → K23 v1 v2 v3 v4 Z I L → jJ G 8 23 [(0, .ref b), (1, .ref v1), (2, .ref v2), (3, .ref v3), (4, .int v4)] [] Z I L (k9 + (jcz Z - jcz Z5) + 27) (n9 + (jsz Z - jsz Z5) + 600)) (v1 : Nat) (v2 : Nat) (v3 : Nat) (v4 : Int32) (Z : jZ) (I : jI) (L : jL) (hZ : SH Z) (hx : jext Z0 Z) (hc : jle Z5 Z) (hb : jin B Z) (kv1 : jk Z v1 11) (kv2 : jk Z v2 12) (kv3 : jk Z v3 15) (h : f_L_law_b986 xs Ls B K23 v1 v2 v3 v4 Z I L) : jJ G 8 986 [(0, .ref b), (1, .ref v1), (2, .ref v2), (3, .ref v3), (4, .int v4)] [] Z I L (k9 + (jcz Z - jcz Z5) + 0) (n9 + (jsz Z - jsz Z5) + 0) := by
  unfold f_L_law_b986 at h
  refine j_aload_n E dL_law_986 1 rfl ?_
  refine j_aload_n E dL_law_987 0 rfl ?_
  refine j_iload E dL_law_988 4 rfl ?_
  refine j_iconst E (v := 1) dL_law_990 (by decide) ?_
  refine j_iadd E dL_law_991 ?_
  obtain ⟨o404, h⟩ := h
  refine j_sld E hX.1 hX.2.1 hX.2.2 o404 dL_law_992 ?_
  refine j_aload_n E dL_law_993 0 rfl ?_
  refine j_iload E dL_law_994 4 rfl ?_
  refine j_iconst E (v := 2) dL_law_996 (by decide) ?_
  refine j_iadd E dL_law_997 ?_
  obtain ⟨o405, h⟩ := h
  refine j_sld E hX.1 hX.2.1 hX.2.2 o405 dL_law_998 ?_
  refine j_aload_n E dL_law_999 0 rfl ?_
  refine j_iload E dL_law_1000 4 rfl ?_
  refine j_iconst E (v := 3) dL_law_1002 (by decide) ?_
  refine j_iadd E dL_law_1003 ?_
  obtain ⟨o406, h⟩ := h
  refine j_sld E hX.1 hX.2.1 hX.2.2 o406 dL_law_1004 ?_
  refine ju_callV E [.int (xs (v4 + (1 : Int32)).toNatClampNeg), .int (xs (v4 + (2 : Int32)).toNatClampNeg), .int (xs (v4 + (3 : Int32)).toNatClampNeg)] [] (c_X11_trod (gL G) (gD G) (gY G) B v1 (xs (v4 + (1 : Int32)).toNatClampNeg) (xs (v4 + (2 : Int32)).toNatClampNeg) (xs (v4 + (3 : Int32)).toNatClampNeg) Z I L _ hZ hb kv1 h) (gwV W_1373 W_1374 W_1375 W_40 W_1372) rfl ⟨rfl, fy_X11_trod⟩ ⟨by decide, by decide⟩ (c := 11) rfl (by decide) kv1 rfl rfl (Nat.le_of_ble_eq_true rfl) ⟨by show k9 + (jcz Z - jcz Z5) + 0 + (B.1 - jcz Z) ≤ 601024; have := hb.1; have := hc.1; omega, by show n9 + (jsz Z - jsz Z5) + 0 + (B.2 - jsz Z) ≤ 7293034; have := hb.2; have := hc.2; omega⟩ dL_law_1005 (fun v407 Z408 I409 L410 q411 j412 => ?_)
  refine j_kn (k' := k9 + (jcz Z408 - jcz Z5) + 0) (n' := n9 + (jsz Z408 - jsz Z5) + 0) (by have := hc.1; have := j412.1; omega) (by have := hc.2; have := j412.2; omega) ?_
  have hc := jle_trans hc j412
  obtain ⟨yZ408, hZ408, hbZ408, r413, rfl, h⟩ := q411
  have hZ := hZ408
  have hx : jext Z0 Z408 := jext_trans hx yZ408
  have hb := hbZ408
  have k414 := (yZ408 _ _ kv1).1
  have k415 := (yZ408 _ _ kv2).1
  have k416 := (yZ408 _ _ kv3).1
  show jJ G 8 1008 [(0, .ref b), (1, .ref v1), (2, .ref v2), (3, .ref v3), (4, .int v4)] [.int r413] Z408 I409 L410 (k9 + (jcz Z408 - jcz Z5) + 0) (n9 + (jsz Z408 - jsz Z5) + 0)
  refine j_pop E dL_law_1008 rfl ?_
  refine j_aload_n E dL_law_1009 2 rfl ?_
  refine j_aload_n E dL_law_1010 0 rfl ?_
  refine j_iload E dL_law_1011 4 rfl ?_
  refine j_iconst E (v := 1) dL_law_1013 (by decide) ?_
  refine j_iadd E dL_law_1014 ?_
  obtain ⟨o417, h⟩ := h
  refine j_sld E hX.1 hX.2.1 hX.2.2 o417 dL_law_1015 ?_
  refine j_aload_n E dL_law_1016 0 rfl ?_
  refine j_iload E dL_law_1017 4 rfl ?_
  refine j_iconst E (v := 2) dL_law_1019 (by decide) ?_
  refine j_iadd E dL_law_1020 ?_
  obtain ⟨o418, h⟩ := h
  refine j_sld E hX.1 hX.2.1 hX.2.2 o418 dL_law_1021 ?_
  refine j_aload_n E dL_law_1022 0 rfl ?_
  refine j_iload E dL_law_1023 4 rfl ?_
  refine j_iconst E (v := 3) dL_law_1025 (by decide) ?_
  refine j_iadd E dL_law_1026 ?_
  obtain ⟨o419, h⟩ := h
  refine j_sld E hX.1 hX.2.1 hX.2.2 o419 dL_law_1027 ?_
  refine ju_callV E [.int (xs (v4 + (1 : Int32)).toNatClampNeg), .int (xs (v4 + (2 : Int32)).toNatClampNeg), .int (xs (v4 + (3 : Int32)).toNatClampNeg)] [] (c_X12_trod (gL G) (gD G) (gY G) B v2 (xs (v4 + (1 : Int32)).toNatClampNeg) (xs (v4 + (2 : Int32)).toNatClampNeg) (xs (v4 + (3 : Int32)).toNatClampNeg) Z408 I409 L410 _ hZ hb k415 h) (gwV W_1377 W_1378 W_1379 W_695 W_1376) rfl ⟨rfl, fy_X12_trod⟩ ⟨by decide, by decide⟩ (c := 12) rfl (by decide) k415 rfl rfl (Nat.le_of_ble_eq_true rfl) ⟨by show k9 + (jcz Z408 - jcz Z5) + 0 + (B.1 - jcz Z408) ≤ 601024; have := hb.1; have := hc.1; omega, by show n9 + (jsz Z408 - jsz Z5) + 0 + (B.2 - jsz Z408) ≤ 7293034; have := hb.2; have := hc.2; omega⟩ dL_law_1028 (fun v420 Z421 I422 L423 q424 j425 => ?_)
  refine j_kn (k' := k9 + (jcz Z421 - jcz Z5) + 0) (n' := n9 + (jsz Z421 - jsz Z5) + 0) (by have := hc.1; have := j425.1; omega) (by have := hc.2; have := j425.2; omega) ?_
  have hc := jle_trans hc j425
  obtain ⟨yZ421, hZ421, hbZ421, r426, rfl, h⟩ := q424
  have hZ := hZ421
  have hx : jext Z0 Z421 := jext_trans hx yZ421
  have hb := hbZ421
  have k427 := (yZ421 _ _ k414).1
  have k428 := (yZ421 _ _ k415).1
  have k429 := (yZ421 _ _ k416).1
  show jJ G 8 1031 [(0, .ref b), (1, .ref v1), (2, .ref v2), (3, .ref v3), (4, .int v4)] [.int r426] Z421 I422 L423 (k9 + (jcz Z421 - jcz Z5) + 0) (n9 + (jsz Z421 - jsz Z5) + 0)
  refine j_pop E dL_law_1031 rfl ?_
  refine j_goto E 1760 dL_law_1032 (by decide) ?_
  refine j_sub [0, 1, 2, 3, 4] rfl ?_
  refine j_widen (k9 := k9 + (jcz Z421 - jcz Z5) + 27) (n9 := n9 + (jsz Z421 - jsz Z5) + 600) (by show k9 + (jcz Z421 - jcz Z5) + 0 ≤ _; omega) (by show n9 + (jsz Z421 - jsz Z5) + 0 ≤ _; omega) ?_
  exact m_L_law_b1760 E hX hV hU hl0 hb9 hn9 K23 hK23 v1 v2 v3 v4 Z421 I422 L423 hZ hx hc hb k427 k428 k429 h
set_option maxRecDepth 100000 in
def f_L_law_b1035 (xs : Nat → Int32) (Ls : Nat) (B : Nat × Nat) (K23 : Nat → Nat → Nat → Int32 → jZ → jI → jL → Prop) (v1 : Nat) (v2 : Nat) (v3 : Nat) (v4 : Int32) (Z : jZ) (I : jI) (L : jL) : Prop := (vp_in (v4 + (1 : Int32)) Ls ∧ (vp_in (v4 + (2 : Int32)) Ls ∧ (f_X11_who B v1 (xs (v4 + (1 : Int32)).toNatClampNeg) (xs (v4 + (2 : Int32)).toNatClampNeg) Z I L (fun r438 Z433 I434 L435 => (vp_in (v4 + (1 : Int32)) Ls ∧ (vp_in (v4 + (2 : Int32)) Ls ∧ (f_X12_who B v2 (xs (v4 + (1 : Int32)).toNatClampNeg) (xs (v4 + (2 : Int32)).toNatClampNeg) Z433 I434 L435 (fun r450 Z445 I446 L447 => f_L_law_b1760 xs Ls B K23 v1 v2 v3 v4 Z445 I446 L447))))))))
set_option maxHeartbeats 4000000 in
set_option maxRecDepth 100000 in
theorem m_L_law_b1035 {G : jG} {Z0 : jZ} {xs : Nat → Int32} {Ls b k9 n9 sa sb : Nat} {B : Nat × Nat} {Z5 : jZ} (E : jE G cL_law RL (Cond.arrayClass .byte :: jT) 8 (some .boolean) room_1 jRL) (hX : va_X b Ls xs (gS G) (gS G).heap ∧ b < (gS G).heap.size ∧ ¬ gA G b) (hV : jV (gA G) (gS G) (gS G).heap) (hU : jU sa sb (gA G) (gS G) (gS G).heap) (hl0 : (gL G).stackTraces = false) (hb9 : k9 + 27 + (B.1 - jcz Z5) ≤ 601024) (hn9 : n9 + 600 + (B.2 - jsz Z5) ≤ 7293034) (K23 : Nat → Nat → Nat → Int32 → jZ → jI → jL → Prop) (hK23 : ∀ (v1 : Nat) (v2 : Nat) (v3 : Nat) (v4 : Int32) (Z : jZ) (I : jI) (L : jL), SH Z → jext Z0 Z → jle Z5 Z → jin B Z → jk Z v1 11 → jk Z v2 12 → jk Z v3 15 → K23 v1 v2 v3 v4 Z I L → jJ G 8 23 [(0, .ref b), (1, .ref v1), (2, .ref v2), (3, .ref v3), (4, .int v4)] [] Z I L (k9 + (jcz Z - jcz Z5) + 27) (n9 + (jsz Z - jsz Z5) + 600)) (v1 : Nat) (v2 : Nat) (v3 : Nat) (v4 : Int32) (Z : jZ) (I : jI) (L : jL) (hZ : SH Z) (hx : jext Z0 Z) (hc : jle Z5 Z) (hb : jin B Z) (kv1 : jk Z v1 11) (kv2 : jk Z v2 12) (kv3 : jk Z v3 15) (h : f_L_law_b1035 xs Ls B K23 v1 v2 v3 v4 Z I L) : jJ G 8 1035 [(0, .ref b), (1, .ref v1), (2, .ref v2), (3, .ref v3), (4, .int v4)] [] Z I L (k9 + (jcz Z - jcz Z5) + 0) (n9 + (jsz Z - jsz Z5) + 0) := by
  unfold f_L_law_b1035 at h
  refine j_aload_n E dL_law_1035 1 rfl ?_
  refine j_aload_n E dL_law_1036 0 rfl ?_
  refine j_iload E dL_law_1037 4 rfl ?_
  refine j_iconst E (v := 1) dL_law_1039 (by decide) ?_
  refine j_iadd E dL_law_1040 ?_
  obtain ⟨o430, h⟩ := h
  refine j_sld E hX.1 hX.2.1 hX.2.2 o430 dL_law_1041 ?_
  refine j_aload_n E dL_law_1042 0 rfl ?_
  refine j_iload E dL_law_1043 4 rfl ?_
  refine j_iconst E (v := 2) dL_law_1045 (by decide) ?_
  refine j_iadd E dL_law_1046 ?_
  obtain ⟨o431, h⟩ := h
  refine j_sld E hX.1 hX.2.1 hX.2.2 o431 dL_law_1047 ?_
  refine ju_callV E [.int (xs (v4 + (1 : Int32)).toNatClampNeg), .int (xs (v4 + (2 : Int32)).toNatClampNeg)] [] (c_X11_who (gL G) (gD G) (gY G) B v1 (xs (v4 + (1 : Int32)).toNatClampNeg) (xs (v4 + (2 : Int32)).toNatClampNeg) Z I L _ hZ hb kv1 h) (gwV W_1381 W_1382 W_1383 W_40 W_1380) rfl ⟨rfl, fy_X11_who⟩ ⟨by decide, by decide⟩ (c := 11) rfl (by decide) kv1 rfl rfl (Nat.le_of_ble_eq_true rfl) ⟨by show k9 + (jcz Z - jcz Z5) + 0 + (B.1 - jcz Z) ≤ 601024; have := hb.1; have := hc.1; omega, by show n9 + (jsz Z - jsz Z5) + 0 + (B.2 - jsz Z) ≤ 7293034; have := hb.2; have := hc.2; omega⟩ dL_law_1048 (fun v432 Z433 I434 L435 q436 j437 => ?_)
  refine j_kn (k' := k9 + (jcz Z433 - jcz Z5) + 0) (n' := n9 + (jsz Z433 - jsz Z5) + 0) (by have := hc.1; have := j437.1; omega) (by have := hc.2; have := j437.2; omega) ?_
  have hc := jle_trans hc j437
  obtain ⟨yZ433, hZ433, hbZ433, r438, rfl, h⟩ := q436
  have hZ := hZ433
  have hx : jext Z0 Z433 := jext_trans hx yZ433
  have hb := hbZ433
  have k439 := (yZ433 _ _ kv1).1
  have k440 := (yZ433 _ _ kv2).1
  have k441 := (yZ433 _ _ kv3).1
  show jJ G 8 1051 [(0, .ref b), (1, .ref v1), (2, .ref v2), (3, .ref v3), (4, .int v4)] [.int r438] Z433 I434 L435 (k9 + (jcz Z433 - jcz Z5) + 0) (n9 + (jsz Z433 - jsz Z5) + 0)
  refine j_pop E dL_law_1051 rfl ?_
  refine j_aload_n E dL_law_1052 2 rfl ?_
  refine j_aload_n E dL_law_1053 0 rfl ?_
  refine j_iload E dL_law_1054 4 rfl ?_
  refine j_iconst E (v := 1) dL_law_1056 (by decide) ?_
  refine j_iadd E dL_law_1057 ?_
  obtain ⟨o442, h⟩ := h
  refine j_sld E hX.1 hX.2.1 hX.2.2 o442 dL_law_1058 ?_
  refine j_aload_n E dL_law_1059 0 rfl ?_
  refine j_iload E dL_law_1060 4 rfl ?_
  refine j_iconst E (v := 2) dL_law_1062 (by decide) ?_
  refine j_iadd E dL_law_1063 ?_
  obtain ⟨o443, h⟩ := h
  refine j_sld E hX.1 hX.2.1 hX.2.2 o443 dL_law_1064 ?_
  refine ju_callV E [.int (xs (v4 + (1 : Int32)).toNatClampNeg), .int (xs (v4 + (2 : Int32)).toNatClampNeg)] [] (c_X12_who (gL G) (gD G) (gY G) B v2 (xs (v4 + (1 : Int32)).toNatClampNeg) (xs (v4 + (2 : Int32)).toNatClampNeg) Z433 I434 L435 _ hZ hb k440 h) (gwV W_1385 W_1386 W_1387 W_695 W_1384) rfl ⟨rfl, fy_X12_who⟩ ⟨by decide, by decide⟩ (c := 12) rfl (by decide) k440 rfl rfl (Nat.le_of_ble_eq_true rfl) ⟨by show k9 + (jcz Z433 - jcz Z5) + 0 + (B.1 - jcz Z433) ≤ 601024; have := hb.1; have := hc.1; omega, by show n9 + (jsz Z433 - jsz Z5) + 0 + (B.2 - jsz Z433) ≤ 7293034; have := hb.2; have := hc.2; omega⟩ dL_law_1065 (fun v444 Z445 I446 L447 q448 j449 => ?_)
  refine j_kn (k' := k9 + (jcz Z445 - jcz Z5) + 0) (n' := n9 + (jsz Z445 - jsz Z5) + 0) (by have := hc.1; have := j449.1; omega) (by have := hc.2; have := j449.2; omega) ?_
  have hc := jle_trans hc j449
  obtain ⟨yZ445, hZ445, hbZ445, r450, rfl, h⟩ := q448
  have hZ := hZ445
  have hx : jext Z0 Z445 := jext_trans hx yZ445
  have hb := hbZ445
  have k451 := (yZ445 _ _ k439).1
  have k452 := (yZ445 _ _ k440).1
  have k453 := (yZ445 _ _ k441).1
  show jJ G 8 1068 [(0, .ref b), (1, .ref v1), (2, .ref v2), (3, .ref v3), (4, .int v4)] [.int r450] Z445 I446 L447 (k9 + (jcz Z445 - jcz Z5) + 0) (n9 + (jsz Z445 - jsz Z5) + 0)
  refine j_pop E dL_law_1068 rfl ?_
  refine j_goto E 1760 dL_law_1069 (by decide) ?_
  refine j_sub [0, 1, 2, 3, 4] rfl ?_
  refine j_widen (k9 := k9 + (jcz Z445 - jcz Z5) + 27) (n9 := n9 + (jsz Z445 - jsz Z5) + 600) (by show k9 + (jcz Z445 - jcz Z5) + 0 ≤ _; omega) (by show n9 + (jsz Z445 - jsz Z5) + 0 ≤ _; omega) ?_
  exact m_L_law_b1760 E hX hV hU hl0 hb9 hn9 K23 hK23 v1 v2 v3 v4 Z445 I446 L447 hZ hx hc hb k451 k452 k453 h
set_option maxRecDepth 100000 in
def f_L_law_b1072 (xs : Nat → Int32) (Ls : Nat) (B : Nat × Nat) (K23 : Nat → Nat → Nat → Int32 → jZ → jI → jL → Prop) (v1 : Nat) (v2 : Nat) (v3 : Nat) (v4 : Int32) (Z : jZ) (I : jI) (L : jL) : Prop := (vp_in (v4 + (1 : Int32)) Ls ∧ (vp_in (v4 + (2 : Int32)) Ls ∧ (f_X11_next B v1 (xs (v4 + (1 : Int32)).toNatClampNeg) (xs (v4 + (2 : Int32)).toNatClampNeg) Z I L (fun r462 Z457 I458 L459 => (vp_in (v4 + (1 : Int32)) Ls ∧ (vp_in (v4 + (2 : Int32)) Ls ∧ (f_X12_next B v2 (xs (v4 + (1 : Int32)).toNatClampNeg) (xs (v4 + (2 : Int32)).toNatClampNeg) Z457 I458 L459 (fun r474 Z469 I470 L471 => f_L_law_b1760 xs Ls B K23 v1 v2 v3 v4 Z469 I470 L471))))))))
set_option maxHeartbeats 4000000 in
set_option maxRecDepth 100000 in
theorem m_L_law_b1072 {G : jG} {Z0 : jZ} {xs : Nat → Int32} {Ls b k9 n9 sa sb : Nat} {B : Nat × Nat} {Z5 : jZ} (E : jE G cL_law RL (Cond.arrayClass .byte :: jT) 8 (some .boolean) room_1 jRL) (hX : va_X b Ls xs (gS G) (gS G).heap ∧ b < (gS G).heap.size ∧ ¬ gA G b) (hV : jV (gA G) (gS G) (gS G).heap) (hU : jU sa sb (gA G) (gS G) (gS G).heap) (hl0 : (gL G).stackTraces = false) (hb9 : k9 + 27 + (B.1 - jcz Z5) ≤ 601024) (hn9 : n9 + 600 + (B.2 - jsz Z5) ≤ 7293034) (K23 : Nat → Nat → Nat → Int32 → jZ → jI → jL → Prop) (hK23 : ∀ (v1 : Nat) (v2 : Nat) (v3 : Nat) (v4 : Int32) (Z : jZ) (I : jI) (L : jL), SH Z → jext Z0 Z → jle Z5 Z → jin B Z → jk Z v1 11 → jk Z v2 12 → jk Z v3 15 → K23 v1 v2 v3 v4 Z I L → jJ G 8 23 [(0, .ref b), (1, .ref v1), (2, .ref v2), (3, .ref v3), (4, .int v4)] [] Z I L (k9 + (jcz Z - jcz Z5) + 27) (n9 + (jsz Z - jsz Z5) + 600)) (v1 : Nat) (v2 : Nat) (v3 : Nat) (v4 : Int32) (Z : jZ) (I : jI) (L : jL) (hZ : SH Z) (hx : jext Z0 Z) (hc : jle Z5 Z) (hb : jin B Z) (kv1 : jk Z v1 11) (kv2 : jk Z v2 12) (kv3 : jk Z v3 15) (h : f_L_law_b1072 xs Ls B K23 v1 v2 v3 v4 Z I L) : jJ G 8 1072 [(0, .ref b), (1, .ref v1), (2, .ref v2), (3, .ref v3), (4, .int v4)] [] Z I L (k9 + (jcz Z - jcz Z5) + 0) (n9 + (jsz Z - jsz Z5) + 0) := by
  unfold f_L_law_b1072 at h
  refine j_aload_n E dL_law_1072 1 rfl ?_
  refine j_aload_n E dL_law_1073 0 rfl ?_
  refine j_iload E dL_law_1074 4 rfl ?_
  refine j_iconst E (v := 1) dL_law_1076 (by decide) ?_
  refine j_iadd E dL_law_1077 ?_
  obtain ⟨o454, h⟩ := h
  refine j_sld E hX.1 hX.2.1 hX.2.2 o454 dL_law_1078 ?_
  refine j_aload_n E dL_law_1079 0 rfl ?_
  refine j_iload E dL_law_1080 4 rfl ?_
  refine j_iconst E (v := 2) dL_law_1082 (by decide) ?_
  refine j_iadd E dL_law_1083 ?_
  obtain ⟨o455, h⟩ := h
  refine j_sld E hX.1 hX.2.1 hX.2.2 o455 dL_law_1084 ?_
  refine ju_callV E [.int (xs (v4 + (1 : Int32)).toNatClampNeg), .int (xs (v4 + (2 : Int32)).toNatClampNeg)] [] (c_X11_next (gL G) (gD G) (gY G) B v1 (xs (v4 + (1 : Int32)).toNatClampNeg) (xs (v4 + (2 : Int32)).toNatClampNeg) Z I L _ hZ hb kv1 h) (gwV W_1389 W_1390 W_1391 W_40 W_1388) rfl ⟨rfl, fy_X11_next⟩ ⟨by decide, by decide⟩ (c := 11) rfl (by decide) kv1 rfl rfl (Nat.le_of_ble_eq_true rfl) ⟨by show k9 + (jcz Z - jcz Z5) + 0 + (B.1 - jcz Z) ≤ 601024; have := hb.1; have := hc.1; omega, by show n9 + (jsz Z - jsz Z5) + 0 + (B.2 - jsz Z) ≤ 7293034; have := hb.2; have := hc.2; omega⟩ dL_law_1085 (fun v456 Z457 I458 L459 q460 j461 => ?_)
  refine j_kn (k' := k9 + (jcz Z457 - jcz Z5) + 0) (n' := n9 + (jsz Z457 - jsz Z5) + 0) (by have := hc.1; have := j461.1; omega) (by have := hc.2; have := j461.2; omega) ?_
  have hc := jle_trans hc j461
  obtain ⟨yZ457, hZ457, hbZ457, r462, rfl, h⟩ := q460
  have hZ := hZ457
  have hx : jext Z0 Z457 := jext_trans hx yZ457
  have hb := hbZ457
  have k463 := (yZ457 _ _ kv1).1
  have k464 := (yZ457 _ _ kv2).1
  have k465 := (yZ457 _ _ kv3).1
  show jJ G 8 1088 [(0, .ref b), (1, .ref v1), (2, .ref v2), (3, .ref v3), (4, .int v4)] [.int r462] Z457 I458 L459 (k9 + (jcz Z457 - jcz Z5) + 0) (n9 + (jsz Z457 - jsz Z5) + 0)
  refine j_pop E dL_law_1088 rfl ?_
  refine j_aload_n E dL_law_1089 2 rfl ?_
  refine j_aload_n E dL_law_1090 0 rfl ?_
  refine j_iload E dL_law_1091 4 rfl ?_
  refine j_iconst E (v := 1) dL_law_1093 (by decide) ?_
  refine j_iadd E dL_law_1094 ?_
  obtain ⟨o466, h⟩ := h
  refine j_sld E hX.1 hX.2.1 hX.2.2 o466 dL_law_1095 ?_
  refine j_aload_n E dL_law_1096 0 rfl ?_
  refine j_iload E dL_law_1097 4 rfl ?_
  refine j_iconst E (v := 2) dL_law_1099 (by decide) ?_
  refine j_iadd E dL_law_1100 ?_
  obtain ⟨o467, h⟩ := h
  refine j_sld E hX.1 hX.2.1 hX.2.2 o467 dL_law_1101 ?_
  refine ju_callV E [.int (xs (v4 + (1 : Int32)).toNatClampNeg), .int (xs (v4 + (2 : Int32)).toNatClampNeg)] [] (c_X12_next (gL G) (gD G) (gY G) B v2 (xs (v4 + (1 : Int32)).toNatClampNeg) (xs (v4 + (2 : Int32)).toNatClampNeg) Z457 I458 L459 _ hZ hb k464 h) (gwV W_1393 W_1394 W_1395 W_695 W_1392) rfl ⟨rfl, fy_X12_next⟩ ⟨by decide, by decide⟩ (c := 12) rfl (by decide) k464 rfl rfl (Nat.le_of_ble_eq_true rfl) ⟨by show k9 + (jcz Z457 - jcz Z5) + 0 + (B.1 - jcz Z457) ≤ 601024; have := hb.1; have := hc.1; omega, by show n9 + (jsz Z457 - jsz Z5) + 0 + (B.2 - jsz Z457) ≤ 7293034; have := hb.2; have := hc.2; omega⟩ dL_law_1102 (fun v468 Z469 I470 L471 q472 j473 => ?_)
  refine j_kn (k' := k9 + (jcz Z469 - jcz Z5) + 0) (n' := n9 + (jsz Z469 - jsz Z5) + 0) (by have := hc.1; have := j473.1; omega) (by have := hc.2; have := j473.2; omega) ?_
  have hc := jle_trans hc j473
  obtain ⟨yZ469, hZ469, hbZ469, r474, rfl, h⟩ := q472
  have hZ := hZ469
  have hx : jext Z0 Z469 := jext_trans hx yZ469
  have hb := hbZ469
  have k475 := (yZ469 _ _ k463).1
  have k476 := (yZ469 _ _ k464).1
  have k477 := (yZ469 _ _ k465).1
  show jJ G 8 1105 [(0, .ref b), (1, .ref v1), (2, .ref v2), (3, .ref v3), (4, .int v4)] [.int r474] Z469 I470 L471 (k9 + (jcz Z469 - jcz Z5) + 0) (n9 + (jsz Z469 - jsz Z5) + 0)
  refine j_pop E dL_law_1105 rfl ?_
  refine j_goto E 1760 dL_law_1106 (by decide) ?_
  refine j_sub [0, 1, 2, 3, 4] rfl ?_
  refine j_widen (k9 := k9 + (jcz Z469 - jcz Z5) + 27) (n9 := n9 + (jsz Z469 - jsz Z5) + 600) (by show k9 + (jcz Z469 - jcz Z5) + 0 ≤ _; omega) (by show n9 + (jsz Z469 - jsz Z5) + 0 ≤ _; omega) ?_
  exact m_L_law_b1760 E hX hV hU hl0 hb9 hn9 K23 hK23 v1 v2 v3 v4 Z469 I470 L471 hZ hx hc hb k475 k476 k477 h
set_option maxRecDepth 100000 in
def f_L_law_b1109 (xs : Nat → Int32) (Ls : Nat) (B : Nat × Nat) (K23 : Nat → Nat → Nat → Int32 → jZ → jI → jL → Prop) (v1 : Nat) (v2 : Nat) (v3 : Nat) (v4 : Int32) (Z : jZ) (I : jI) (L : jL) : Prop := (vp_in (v4 + (1 : Int32)) Ls ∧ (f_X11_bears B v1 (xs (v4 + (1 : Int32)).toNatClampNeg) Z I L (fun r485 Z480 I481 L482 => (vp_in (v4 + (1 : Int32)) Ls ∧ (f_X12_bears B v2 (xs (v4 + (1 : Int32)).toNatClampNeg) Z480 I481 L482 (fun r496 Z491 I492 L493 => f_L_law_b1760 xs Ls B K23 v1 v2 v3 v4 Z491 I492 L493))))))
set_option maxHeartbeats 4000000 in
set_option maxRecDepth 100000 in
theorem m_L_law_b1109 {G : jG} {Z0 : jZ} {xs : Nat → Int32} {Ls b k9 n9 sa sb : Nat} {B : Nat × Nat} {Z5 : jZ} (E : jE G cL_law RL (Cond.arrayClass .byte :: jT) 8 (some .boolean) room_1 jRL) (hX : va_X b Ls xs (gS G) (gS G).heap ∧ b < (gS G).heap.size ∧ ¬ gA G b) (hV : jV (gA G) (gS G) (gS G).heap) (hU : jU sa sb (gA G) (gS G) (gS G).heap) (hl0 : (gL G).stackTraces = false) (hb9 : k9 + 27 + (B.1 - jcz Z5) ≤ 601024) (hn9 : n9 + 600 + (B.2 - jsz Z5) ≤ 7293034) (K23 : Nat → Nat → Nat → Int32 → jZ → jI → jL → Prop) (hK23 : ∀ (v1 : Nat) (v2 : Nat) (v3 : Nat) (v4 : Int32) (Z : jZ) (I : jI) (L : jL), SH Z → jext Z0 Z → jle Z5 Z → jin B Z → jk Z v1 11 → jk Z v2 12 → jk Z v3 15 → K23 v1 v2 v3 v4 Z I L → jJ G 8 23 [(0, .ref b), (1, .ref v1), (2, .ref v2), (3, .ref v3), (4, .int v4)] [] Z I L (k9 + (jcz Z - jcz Z5) + 27) (n9 + (jsz Z - jsz Z5) + 600)) (v1 : Nat) (v2 : Nat) (v3 : Nat) (v4 : Int32) (Z : jZ) (I : jI) (L : jL) (hZ : SH Z) (hx : jext Z0 Z) (hc : jle Z5 Z) (hb : jin B Z) (kv1 : jk Z v1 11) (kv2 : jk Z v2 12) (kv3 : jk Z v3 15) (h : f_L_law_b1109 xs Ls B K23 v1 v2 v3 v4 Z I L) : jJ G 8 1109 [(0, .ref b), (1, .ref v1), (2, .ref v2), (3, .ref v3), (4, .int v4)] [] Z I L (k9 + (jcz Z - jcz Z5) + 0) (n9 + (jsz Z - jsz Z5) + 0) := by
  unfold f_L_law_b1109 at h
  refine j_aload_n E dL_law_1109 1 rfl ?_
  refine j_aload_n E dL_law_1110 0 rfl ?_
  refine j_iload E dL_law_1111 4 rfl ?_
  refine j_iconst E (v := 1) dL_law_1113 (by decide) ?_
  refine j_iadd E dL_law_1114 ?_
  obtain ⟨o478, h⟩ := h
  refine j_sld E hX.1 hX.2.1 hX.2.2 o478 dL_law_1115 ?_
  refine ju_callV E [.int (xs (v4 + (1 : Int32)).toNatClampNeg)] [] (c_X11_bears (gL G) (gD G) (gY G) B v1 (xs (v4 + (1 : Int32)).toNatClampNeg) Z I L _ hZ hb kv1 h) (gwV W_1397 W_1398 W_1399 W_40 W_1396) rfl ⟨rfl, fy_X11_bears⟩ ⟨by decide, by decide⟩ (c := 11) rfl (by decide) kv1 rfl rfl (Nat.le_of_ble_eq_true rfl) ⟨by show k9 + (jcz Z - jcz Z5) + 0 + (B.1 - jcz Z) ≤ 601024; have := hb.1; have := hc.1; omega, by show n9 + (jsz Z - jsz Z5) + 0 + (B.2 - jsz Z) ≤ 7293034; have := hb.2; have := hc.2; omega⟩ dL_law_1116 (fun v479 Z480 I481 L482 q483 j484 => ?_)
  refine j_kn (k' := k9 + (jcz Z480 - jcz Z5) + 0) (n' := n9 + (jsz Z480 - jsz Z5) + 0) (by have := hc.1; have := j484.1; omega) (by have := hc.2; have := j484.2; omega) ?_
  have hc := jle_trans hc j484
  obtain ⟨yZ480, hZ480, hbZ480, r485, rfl, h⟩ := q483
  have hZ := hZ480
  have hx : jext Z0 Z480 := jext_trans hx yZ480
  have hb := hbZ480
  have k486 := (yZ480 _ _ kv1).1
  have k487 := (yZ480 _ _ kv2).1
  have k488 := (yZ480 _ _ kv3).1
  show jJ G 8 1119 [(0, .ref b), (1, .ref v1), (2, .ref v2), (3, .ref v3), (4, .int v4)] [.int r485] Z480 I481 L482 (k9 + (jcz Z480 - jcz Z5) + 0) (n9 + (jsz Z480 - jsz Z5) + 0)
  refine j_pop E dL_law_1119 rfl ?_
  refine j_aload_n E dL_law_1120 2 rfl ?_
  refine j_aload_n E dL_law_1121 0 rfl ?_
  refine j_iload E dL_law_1122 4 rfl ?_
  refine j_iconst E (v := 1) dL_law_1124 (by decide) ?_
  refine j_iadd E dL_law_1125 ?_
  obtain ⟨o489, h⟩ := h
  refine j_sld E hX.1 hX.2.1 hX.2.2 o489 dL_law_1126 ?_
  refine ju_callV E [.int (xs (v4 + (1 : Int32)).toNatClampNeg)] [] (c_X12_bears (gL G) (gD G) (gY G) B v2 (xs (v4 + (1 : Int32)).toNatClampNeg) Z480 I481 L482 _ hZ hb k487 h) (gwV W_1401 W_1402 W_1403 W_695 W_1400) rfl ⟨rfl, fy_X12_bears⟩ ⟨by decide, by decide⟩ (c := 12) rfl (by decide) k487 rfl rfl (Nat.le_of_ble_eq_true rfl) ⟨by show k9 + (jcz Z480 - jcz Z5) + 0 + (B.1 - jcz Z480) ≤ 601024; have := hb.1; have := hc.1; omega, by show n9 + (jsz Z480 - jsz Z5) + 0 + (B.2 - jsz Z480) ≤ 7293034; have := hb.2; have := hc.2; omega⟩ dL_law_1127 (fun v490 Z491 I492 L493 q494 j495 => ?_)
  refine j_kn (k' := k9 + (jcz Z491 - jcz Z5) + 0) (n' := n9 + (jsz Z491 - jsz Z5) + 0) (by have := hc.1; have := j495.1; omega) (by have := hc.2; have := j495.2; omega) ?_
  have hc := jle_trans hc j495
  obtain ⟨yZ491, hZ491, hbZ491, r496, rfl, h⟩ := q494
  have hZ := hZ491
  have hx : jext Z0 Z491 := jext_trans hx yZ491
  have hb := hbZ491
  have k497 := (yZ491 _ _ k486).1
  have k498 := (yZ491 _ _ k487).1
  have k499 := (yZ491 _ _ k488).1
  show jJ G 8 1130 [(0, .ref b), (1, .ref v1), (2, .ref v2), (3, .ref v3), (4, .int v4)] [.int r496] Z491 I492 L493 (k9 + (jcz Z491 - jcz Z5) + 0) (n9 + (jsz Z491 - jsz Z5) + 0)
  refine j_pop E dL_law_1130 rfl ?_
  refine j_goto E 1760 dL_law_1131 (by decide) ?_
  refine j_sub [0, 1, 2, 3, 4] rfl ?_
  refine j_widen (k9 := k9 + (jcz Z491 - jcz Z5) + 27) (n9 := n9 + (jsz Z491 - jsz Z5) + 600) (by show k9 + (jcz Z491 - jcz Z5) + 0 ≤ _; omega) (by show n9 + (jsz Z491 - jsz Z5) + 0 ≤ _; omega) ?_
  exact m_L_law_b1760 E hX hV hU hl0 hb9 hn9 K23 hK23 v1 v2 v3 v4 Z491 I492 L493 hZ hx hc hb k497 k498 k499 h
set_option maxRecDepth 100000 in
def f_L_law_b1134 (xs : Nat → Int32) (Ls : Nat) (B : Nat × Nat) (K23 : Nat → Nat → Nat → Int32 → jZ → jI → jL → Prop) (v1 : Nat) (v2 : Nat) (v3 : Nat) (v4 : Int32) (Z : jZ) (I : jI) (L : jL) : Prop := (vp_in (v4 + (1 : Int32)) Ls ∧ (f_X11_breaks B v1 (xs (v4 + (1 : Int32)).toNatClampNeg) Z I L (fun r507 Z502 I503 L504 => (vp_in (v4 + (1 : Int32)) Ls ∧ (f_X12_breaks B v2 (xs (v4 + (1 : Int32)).toNatClampNeg) Z502 I503 L504 (fun r518 Z513 I514 L515 => f_L_law_b1760 xs Ls B K23 v1 v2 v3 v4 Z513 I514 L515))))))
set_option maxHeartbeats 4000000 in
set_option maxRecDepth 100000 in
theorem m_L_law_b1134 {G : jG} {Z0 : jZ} {xs : Nat → Int32} {Ls b k9 n9 sa sb : Nat} {B : Nat × Nat} {Z5 : jZ} (E : jE G cL_law RL (Cond.arrayClass .byte :: jT) 8 (some .boolean) room_1 jRL) (hX : va_X b Ls xs (gS G) (gS G).heap ∧ b < (gS G).heap.size ∧ ¬ gA G b) (hV : jV (gA G) (gS G) (gS G).heap) (hU : jU sa sb (gA G) (gS G) (gS G).heap) (hl0 : (gL G).stackTraces = false) (hb9 : k9 + 27 + (B.1 - jcz Z5) ≤ 601024) (hn9 : n9 + 600 + (B.2 - jsz Z5) ≤ 7293034) (K23 : Nat → Nat → Nat → Int32 → jZ → jI → jL → Prop) (hK23 : ∀ (v1 : Nat) (v2 : Nat) (v3 : Nat) (v4 : Int32) (Z : jZ) (I : jI) (L : jL), SH Z → jext Z0 Z → jle Z5 Z → jin B Z → jk Z v1 11 → jk Z v2 12 → jk Z v3 15 → K23 v1 v2 v3 v4 Z I L → jJ G 8 23 [(0, .ref b), (1, .ref v1), (2, .ref v2), (3, .ref v3), (4, .int v4)] [] Z I L (k9 + (jcz Z - jcz Z5) + 27) (n9 + (jsz Z - jsz Z5) + 600)) (v1 : Nat) (v2 : Nat) (v3 : Nat) (v4 : Int32) (Z : jZ) (I : jI) (L : jL) (hZ : SH Z) (hx : jext Z0 Z) (hc : jle Z5 Z) (hb : jin B Z) (kv1 : jk Z v1 11) (kv2 : jk Z v2 12) (kv3 : jk Z v3 15) (h : f_L_law_b1134 xs Ls B K23 v1 v2 v3 v4 Z I L) : jJ G 8 1134 [(0, .ref b), (1, .ref v1), (2, .ref v2), (3, .ref v3), (4, .int v4)] [] Z I L (k9 + (jcz Z - jcz Z5) + 0) (n9 + (jsz Z - jsz Z5) + 0) := by
  unfold f_L_law_b1134 at h
  refine j_aload_n E dL_law_1134 1 rfl ?_
  refine j_aload_n E dL_law_1135 0 rfl ?_
  refine j_iload E dL_law_1136 4 rfl ?_
  refine j_iconst E (v := 1) dL_law_1138 (by decide) ?_
  refine j_iadd E dL_law_1139 ?_
  obtain ⟨o500, h⟩ := h
  refine j_sld E hX.1 hX.2.1 hX.2.2 o500 dL_law_1140 ?_
  refine ju_callV E [.int (xs (v4 + (1 : Int32)).toNatClampNeg)] [] (c_X11_breaks (gL G) (gD G) (gY G) B v1 (xs (v4 + (1 : Int32)).toNatClampNeg) Z I L _ hZ hb kv1 h) (gwV W_1405 W_1406 W_1407 W_40 W_1404) rfl ⟨rfl, fy_X11_breaks⟩ ⟨by decide, by decide⟩ (c := 11) rfl (by decide) kv1 rfl rfl (Nat.le_of_ble_eq_true rfl) ⟨by show k9 + (jcz Z - jcz Z5) + 0 + (B.1 - jcz Z) ≤ 601024; have := hb.1; have := hc.1; omega, by show n9 + (jsz Z - jsz Z5) + 0 + (B.2 - jsz Z) ≤ 7293034; have := hb.2; have := hc.2; omega⟩ dL_law_1141 (fun v501 Z502 I503 L504 q505 j506 => ?_)
  refine j_kn (k' := k9 + (jcz Z502 - jcz Z5) + 0) (n' := n9 + (jsz Z502 - jsz Z5) + 0) (by have := hc.1; have := j506.1; omega) (by have := hc.2; have := j506.2; omega) ?_
  have hc := jle_trans hc j506
  obtain ⟨yZ502, hZ502, hbZ502, r507, rfl, h⟩ := q505
  have hZ := hZ502
  have hx : jext Z0 Z502 := jext_trans hx yZ502
  have hb := hbZ502
  have k508 := (yZ502 _ _ kv1).1
  have k509 := (yZ502 _ _ kv2).1
  have k510 := (yZ502 _ _ kv3).1
  show jJ G 8 1144 [(0, .ref b), (1, .ref v1), (2, .ref v2), (3, .ref v3), (4, .int v4)] [.int r507] Z502 I503 L504 (k9 + (jcz Z502 - jcz Z5) + 0) (n9 + (jsz Z502 - jsz Z5) + 0)
  refine j_pop E dL_law_1144 rfl ?_
  refine j_aload_n E dL_law_1145 2 rfl ?_
  refine j_aload_n E dL_law_1146 0 rfl ?_
  refine j_iload E dL_law_1147 4 rfl ?_
  refine j_iconst E (v := 1) dL_law_1149 (by decide) ?_
  refine j_iadd E dL_law_1150 ?_
  obtain ⟨o511, h⟩ := h
  refine j_sld E hX.1 hX.2.1 hX.2.2 o511 dL_law_1151 ?_
  refine ju_callV E [.int (xs (v4 + (1 : Int32)).toNatClampNeg)] [] (c_X12_breaks (gL G) (gD G) (gY G) B v2 (xs (v4 + (1 : Int32)).toNatClampNeg) Z502 I503 L504 _ hZ hb k509 h) (gwV W_1409 W_1410 W_1411 W_695 W_1408) rfl ⟨rfl, fy_X12_breaks⟩ ⟨by decide, by decide⟩ (c := 12) rfl (by decide) k509 rfl rfl (Nat.le_of_ble_eq_true rfl) ⟨by show k9 + (jcz Z502 - jcz Z5) + 0 + (B.1 - jcz Z502) ≤ 601024; have := hb.1; have := hc.1; omega, by show n9 + (jsz Z502 - jsz Z5) + 0 + (B.2 - jsz Z502) ≤ 7293034; have := hb.2; have := hc.2; omega⟩ dL_law_1152 (fun v512 Z513 I514 L515 q516 j517 => ?_)
  refine j_kn (k' := k9 + (jcz Z513 - jcz Z5) + 0) (n' := n9 + (jsz Z513 - jsz Z5) + 0) (by have := hc.1; have := j517.1; omega) (by have := hc.2; have := j517.2; omega) ?_
  have hc := jle_trans hc j517
  obtain ⟨yZ513, hZ513, hbZ513, r518, rfl, h⟩ := q516
  have hZ := hZ513
  have hx : jext Z0 Z513 := jext_trans hx yZ513
  have hb := hbZ513
  have k519 := (yZ513 _ _ k508).1
  have k520 := (yZ513 _ _ k509).1
  have k521 := (yZ513 _ _ k510).1
  show jJ G 8 1155 [(0, .ref b), (1, .ref v1), (2, .ref v2), (3, .ref v3), (4, .int v4)] [.int r518] Z513 I514 L515 (k9 + (jcz Z513 - jcz Z5) + 0) (n9 + (jsz Z513 - jsz Z5) + 0)
  refine j_pop E dL_law_1155 rfl ?_
  refine j_goto E 1760 dL_law_1156 (by decide) ?_
  refine j_sub [0, 1, 2, 3, 4] rfl ?_
  refine j_widen (k9 := k9 + (jcz Z513 - jcz Z5) + 27) (n9 := n9 + (jsz Z513 - jsz Z5) + 600) (by show k9 + (jcz Z513 - jcz Z5) + 0 ≤ _; omega) (by show n9 + (jsz Z513 - jsz Z5) + 0 ≤ _; omega) ?_
  exact m_L_law_b1760 E hX hV hU hl0 hb9 hn9 K23 hK23 v1 v2 v3 v4 Z513 I514 L515 hZ hx hc hb k519 k520 k521 h
set_option maxRecDepth 100000 in
def f_L_law_b1159 (xs : Nat → Int32) (Ls : Nat) (B : Nat × Nat) (K23 : Nat → Nat → Nat → Int32 → jZ → jI → jL → Prop) (v1 : Nat) (v2 : Nat) (v3 : Nat) (v4 : Int32) (Z : jZ) (I : jI) (L : jL) : Prop := (f_X11_all B v1 Z I L (fun r528 Z523 I524 L525 => (f_X12_all B v2 Z523 I524 L525 (fun r538 Z533 I534 L535 => f_L_law_b1760 xs Ls B K23 v1 v2 v3 v4 Z533 I534 L535))))
set_option maxHeartbeats 4000000 in
set_option maxRecDepth 100000 in
theorem m_L_law_b1159 {G : jG} {Z0 : jZ} {xs : Nat → Int32} {Ls b k9 n9 sa sb : Nat} {B : Nat × Nat} {Z5 : jZ} (E : jE G cL_law RL (Cond.arrayClass .byte :: jT) 8 (some .boolean) room_1 jRL) (hX : va_X b Ls xs (gS G) (gS G).heap ∧ b < (gS G).heap.size ∧ ¬ gA G b) (hV : jV (gA G) (gS G) (gS G).heap) (hU : jU sa sb (gA G) (gS G) (gS G).heap) (hl0 : (gL G).stackTraces = false) (hb9 : k9 + 27 + (B.1 - jcz Z5) ≤ 601024) (hn9 : n9 + 600 + (B.2 - jsz Z5) ≤ 7293034) (K23 : Nat → Nat → Nat → Int32 → jZ → jI → jL → Prop) (hK23 : ∀ (v1 : Nat) (v2 : Nat) (v3 : Nat) (v4 : Int32) (Z : jZ) (I : jI) (L : jL), SH Z → jext Z0 Z → jle Z5 Z → jin B Z → jk Z v1 11 → jk Z v2 12 → jk Z v3 15 → K23 v1 v2 v3 v4 Z I L → jJ G 8 23 [(0, .ref b), (1, .ref v1), (2, .ref v2), (3, .ref v3), (4, .int v4)] [] Z I L (k9 + (jcz Z - jcz Z5) + 27) (n9 + (jsz Z - jsz Z5) + 600)) (v1 : Nat) (v2 : Nat) (v3 : Nat) (v4 : Int32) (Z : jZ) (I : jI) (L : jL) (hZ : SH Z) (hx : jext Z0 Z) (hc : jle Z5 Z) (hb : jin B Z) (kv1 : jk Z v1 11) (kv2 : jk Z v2 12) (kv3 : jk Z v3 15) (h : f_L_law_b1159 xs Ls B K23 v1 v2 v3 v4 Z I L) : jJ G 8 1159 [(0, .ref b), (1, .ref v1), (2, .ref v2), (3, .ref v3), (4, .int v4)] [] Z I L (k9 + (jcz Z - jcz Z5) + 0) (n9 + (jsz Z - jsz Z5) + 0) := by
  unfold f_L_law_b1159 at h
  refine j_aload_n E dL_law_1159 1 rfl ?_
  refine ju_callV E [] [] (c_X11_all (gL G) (gD G) (gY G) B v1 Z I L _ hZ hb kv1 h) (gwV W_1413 W_1414 W_1415 W_40 W_1412) rfl ⟨rfl, fy_X11_all⟩ ⟨by decide, by decide⟩ (c := 11) rfl (by decide) kv1 rfl rfl (Nat.le_of_ble_eq_true rfl) ⟨by show k9 + (jcz Z - jcz Z5) + 0 + (B.1 - jcz Z) ≤ 601024; have := hb.1; have := hc.1; omega, by show n9 + (jsz Z - jsz Z5) + 0 + (B.2 - jsz Z) ≤ 7293034; have := hb.2; have := hc.2; omega⟩ dL_law_1160 (fun v522 Z523 I524 L525 q526 j527 => ?_)
  refine j_kn (k' := k9 + (jcz Z523 - jcz Z5) + 0) (n' := n9 + (jsz Z523 - jsz Z5) + 0) (by have := hc.1; have := j527.1; omega) (by have := hc.2; have := j527.2; omega) ?_
  have hc := jle_trans hc j527
  obtain ⟨yZ523, hZ523, hbZ523, r528, rfl, h⟩ := q526
  have hZ := hZ523
  have hx : jext Z0 Z523 := jext_trans hx yZ523
  have hb := hbZ523
  have k529 := (yZ523 _ _ kv1).1
  have k530 := (yZ523 _ _ kv2).1
  have k531 := (yZ523 _ _ kv3).1
  show jJ G 8 1163 [(0, .ref b), (1, .ref v1), (2, .ref v2), (3, .ref v3), (4, .int v4)] [.int r528] Z523 I524 L525 (k9 + (jcz Z523 - jcz Z5) + 0) (n9 + (jsz Z523 - jsz Z5) + 0)
  refine j_pop E dL_law_1163 rfl ?_
  refine j_aload_n E dL_law_1164 2 rfl ?_
  refine ju_callV E [] [] (c_X12_all (gL G) (gD G) (gY G) B v2 Z523 I524 L525 _ hZ hb k530 h) (gwV W_1417 W_1418 W_1419 W_695 W_1416) rfl ⟨rfl, fy_X12_all⟩ ⟨by decide, by decide⟩ (c := 12) rfl (by decide) k530 rfl rfl (Nat.le_of_ble_eq_true rfl) ⟨by show k9 + (jcz Z523 - jcz Z5) + 0 + (B.1 - jcz Z523) ≤ 601024; have := hb.1; have := hc.1; omega, by show n9 + (jsz Z523 - jsz Z5) + 0 + (B.2 - jsz Z523) ≤ 7293034; have := hb.2; have := hc.2; omega⟩ dL_law_1165 (fun v532 Z533 I534 L535 q536 j537 => ?_)
  refine j_kn (k' := k9 + (jcz Z533 - jcz Z5) + 0) (n' := n9 + (jsz Z533 - jsz Z5) + 0) (by have := hc.1; have := j537.1; omega) (by have := hc.2; have := j537.2; omega) ?_
  have hc := jle_trans hc j537
  obtain ⟨yZ533, hZ533, hbZ533, r538, rfl, h⟩ := q536
  have hZ := hZ533
  have hx : jext Z0 Z533 := jext_trans hx yZ533
  have hb := hbZ533
  have k539 := (yZ533 _ _ k529).1
  have k540 := (yZ533 _ _ k530).1
  have k541 := (yZ533 _ _ k531).1
  show jJ G 8 1168 [(0, .ref b), (1, .ref v1), (2, .ref v2), (3, .ref v3), (4, .int v4)] [.int r538] Z533 I534 L535 (k9 + (jcz Z533 - jcz Z5) + 0) (n9 + (jsz Z533 - jsz Z5) + 0)
  refine j_pop E dL_law_1168 rfl ?_
  refine j_goto E 1760 dL_law_1169 (by decide) ?_
  refine j_sub [0, 1, 2, 3, 4] rfl ?_
  refine j_widen (k9 := k9 + (jcz Z533 - jcz Z5) + 27) (n9 := n9 + (jsz Z533 - jsz Z5) + 600) (by show k9 + (jcz Z533 - jcz Z5) + 0 ≤ _; omega) (by show n9 + (jsz Z533 - jsz Z5) + 0 ≤ _; omega) ?_
  exact m_L_law_b1760 E hX hV hU hl0 hb9 hn9 K23 hK23 v1 v2 v3 v4 Z533 I534 L535 hZ hx hc hb k539 k540 k541 h
set_option maxRecDepth 100000 in
def f_L_law_b1172 (xs : Nat → Int32) (Ls : Nat) (B : Nat × Nat) (K23 : Nat → Nat → Nat → Int32 → jZ → jI → jL → Prop) (v1 : Nat) (v2 : Nat) (v3 : Nat) (v4 : Int32) (Z : jZ) (I : jI) (L : jL) : Prop := (vp_in (v4 + (1 : Int32)) Ls ∧ (f_X11_whole B v1 (xs (v4 + (1 : Int32)).toNatClampNeg) Z I L (fun r549 Z544 I545 L546 => (vp_in (v4 + (1 : Int32)) Ls ∧ (f_X12_whole B v2 (xs (v4 + (1 : Int32)).toNatClampNeg) Z544 I545 L546 (fun r560 Z555 I556 L557 => f_L_law_b1760 xs Ls B K23 v1 v2 v3 v4 Z555 I556 L557))))))
set_option maxHeartbeats 4000000 in
set_option maxRecDepth 100000 in
theorem m_L_law_b1172 {G : jG} {Z0 : jZ} {xs : Nat → Int32} {Ls b k9 n9 sa sb : Nat} {B : Nat × Nat} {Z5 : jZ} (E : jE G cL_law RL (Cond.arrayClass .byte :: jT) 8 (some .boolean) room_1 jRL) (hX : va_X b Ls xs (gS G) (gS G).heap ∧ b < (gS G).heap.size ∧ ¬ gA G b) (hV : jV (gA G) (gS G) (gS G).heap) (hU : jU sa sb (gA G) (gS G) (gS G).heap) (hl0 : (gL G).stackTraces = false) (hb9 : k9 + 27 + (B.1 - jcz Z5) ≤ 601024) (hn9 : n9 + 600 + (B.2 - jsz Z5) ≤ 7293034) (K23 : Nat → Nat → Nat → Int32 → jZ → jI → jL → Prop) (hK23 : ∀ (v1 : Nat) (v2 : Nat) (v3 : Nat) (v4 : Int32) (Z : jZ) (I : jI) (L : jL), SH Z → jext Z0 Z → jle Z5 Z → jin B Z → jk Z v1 11 → jk Z v2 12 → jk Z v3 15 → K23 v1 v2 v3 v4 Z I L → jJ G 8 23 [(0, .ref b), (1, .ref v1), (2, .ref v2), (3, .ref v3), (4, .int v4)] [] Z I L (k9 + (jcz Z - jcz Z5) + 27) (n9 + (jsz Z - jsz Z5) + 600)) (v1 : Nat) (v2 : Nat) (v3 : Nat) (v4 : Int32) (Z : jZ) (I : jI) (L : jL) (hZ : SH Z) (hx : jext Z0 Z) (hc : jle Z5 Z) (hb : jin B Z) (kv1 : jk Z v1 11) (kv2 : jk Z v2 12) (kv3 : jk Z v3 15) (h : f_L_law_b1172 xs Ls B K23 v1 v2 v3 v4 Z I L) : jJ G 8 1172 [(0, .ref b), (1, .ref v1), (2, .ref v2), (3, .ref v3), (4, .int v4)] [] Z I L (k9 + (jcz Z - jcz Z5) + 0) (n9 + (jsz Z - jsz Z5) + 0) := by
  unfold f_L_law_b1172 at h
  refine j_aload_n E dL_law_1172 1 rfl ?_
  refine j_aload_n E dL_law_1173 0 rfl ?_
  refine j_iload E dL_law_1174 4 rfl ?_
  refine j_iconst E (v := 1) dL_law_1176 (by decide) ?_
  refine j_iadd E dL_law_1177 ?_
  obtain ⟨o542, h⟩ := h
  refine j_sld E hX.1 hX.2.1 hX.2.2 o542 dL_law_1178 ?_
  refine ju_callV E [.int (xs (v4 + (1 : Int32)).toNatClampNeg)] [] (c_X11_whole (gL G) (gD G) (gY G) B v1 (xs (v4 + (1 : Int32)).toNatClampNeg) Z I L _ hZ hb kv1 h) (gwV W_1421 W_1422 W_1423 W_40 W_1420) rfl ⟨rfl, fy_X11_whole⟩ ⟨by decide, by decide⟩ (c := 11) rfl (by decide) kv1 rfl rfl (Nat.le_of_ble_eq_true rfl) ⟨by show k9 + (jcz Z - jcz Z5) + 0 + (B.1 - jcz Z) ≤ 601024; have := hb.1; have := hc.1; omega, by show n9 + (jsz Z - jsz Z5) + 0 + (B.2 - jsz Z) ≤ 7293034; have := hb.2; have := hc.2; omega⟩ dL_law_1179 (fun v543 Z544 I545 L546 q547 j548 => ?_)
  refine j_kn (k' := k9 + (jcz Z544 - jcz Z5) + 0) (n' := n9 + (jsz Z544 - jsz Z5) + 0) (by have := hc.1; have := j548.1; omega) (by have := hc.2; have := j548.2; omega) ?_
  have hc := jle_trans hc j548
  obtain ⟨yZ544, hZ544, hbZ544, r549, rfl, h⟩ := q547
  have hZ := hZ544
  have hx : jext Z0 Z544 := jext_trans hx yZ544
  have hb := hbZ544
  have k550 := (yZ544 _ _ kv1).1
  have k551 := (yZ544 _ _ kv2).1
  have k552 := (yZ544 _ _ kv3).1
  show jJ G 8 1182 [(0, .ref b), (1, .ref v1), (2, .ref v2), (3, .ref v3), (4, .int v4)] [.int r549] Z544 I545 L546 (k9 + (jcz Z544 - jcz Z5) + 0) (n9 + (jsz Z544 - jsz Z5) + 0)
  refine j_pop E dL_law_1182 rfl ?_
  refine j_aload_n E dL_law_1183 2 rfl ?_
  refine j_aload_n E dL_law_1184 0 rfl ?_
  refine j_iload E dL_law_1185 4 rfl ?_
  refine j_iconst E (v := 1) dL_law_1187 (by decide) ?_
  refine j_iadd E dL_law_1188 ?_
  obtain ⟨o553, h⟩ := h
  refine j_sld E hX.1 hX.2.1 hX.2.2 o553 dL_law_1189 ?_
  refine ju_callV E [.int (xs (v4 + (1 : Int32)).toNatClampNeg)] [] (c_X12_whole (gL G) (gD G) (gY G) B v2 (xs (v4 + (1 : Int32)).toNatClampNeg) Z544 I545 L546 _ hZ hb k551 h) (gwV W_1425 W_1426 W_1427 W_695 W_1424) rfl ⟨rfl, fy_X12_whole⟩ ⟨by decide, by decide⟩ (c := 12) rfl (by decide) k551 rfl rfl (Nat.le_of_ble_eq_true rfl) ⟨by show k9 + (jcz Z544 - jcz Z5) + 0 + (B.1 - jcz Z544) ≤ 601024; have := hb.1; have := hc.1; omega, by show n9 + (jsz Z544 - jsz Z5) + 0 + (B.2 - jsz Z544) ≤ 7293034; have := hb.2; have := hc.2; omega⟩ dL_law_1190 (fun v554 Z555 I556 L557 q558 j559 => ?_)
  refine j_kn (k' := k9 + (jcz Z555 - jcz Z5) + 0) (n' := n9 + (jsz Z555 - jsz Z5) + 0) (by have := hc.1; have := j559.1; omega) (by have := hc.2; have := j559.2; omega) ?_
  have hc := jle_trans hc j559
  obtain ⟨yZ555, hZ555, hbZ555, r560, rfl, h⟩ := q558
  have hZ := hZ555
  have hx : jext Z0 Z555 := jext_trans hx yZ555
  have hb := hbZ555
  have k561 := (yZ555 _ _ k550).1
  have k562 := (yZ555 _ _ k551).1
  have k563 := (yZ555 _ _ k552).1
  show jJ G 8 1193 [(0, .ref b), (1, .ref v1), (2, .ref v2), (3, .ref v3), (4, .int v4)] [.int r560] Z555 I556 L557 (k9 + (jcz Z555 - jcz Z5) + 0) (n9 + (jsz Z555 - jsz Z5) + 0)
  refine j_pop E dL_law_1193 rfl ?_
  refine j_goto E 1760 dL_law_1194 (by decide) ?_
  refine j_sub [0, 1, 2, 3, 4] rfl ?_
  refine j_widen (k9 := k9 + (jcz Z555 - jcz Z5) + 27) (n9 := n9 + (jsz Z555 - jsz Z5) + 600) (by show k9 + (jcz Z555 - jcz Z5) + 0 ≤ _; omega) (by show n9 + (jsz Z555 - jsz Z5) + 0 ≤ _; omega) ?_
  exact m_L_law_b1760 E hX hV hU hl0 hb9 hn9 K23 hK23 v1 v2 v3 v4 Z555 I556 L557 hZ hx hc hb k561 k562 k563 h
set_option maxRecDepth 100000 in
def f_L_law_b1197 (xs : Nat → Int32) (Ls : Nat) (B : Nat × Nat) (K23 : Nat → Nat → Nat → Int32 → jZ → jI → jL → Prop) (v1 : Nat) (v2 : Nat) (v3 : Nat) (v4 : Int32) (Z : jZ) (I : jI) (L : jL) : Prop := (vp_in (v4 + (1 : Int32)) Ls ∧ (f_X11_mends v1 (xs (v4 + (1 : Int32)).toNatClampNeg) Z I L (fun r571 I567 L568 => (vp_in (v4 + (1 : Int32)) Ls ∧ (f_X12_mends v2 (xs (v4 + (1 : Int32)).toNatClampNeg) Z I567 L568 (fun r579 I575 L576 => f_L_law_b1760 xs Ls B K23 v1 v2 v3 v4 Z I575 L576))))))
set_option maxHeartbeats 4000000 in
set_option maxRecDepth 100000 in
theorem m_L_law_b1197 {G : jG} {Z0 : jZ} {xs : Nat → Int32} {Ls b k9 n9 sa sb : Nat} {B : Nat × Nat} {Z5 : jZ} (E : jE G cL_law RL (Cond.arrayClass .byte :: jT) 8 (some .boolean) room_1 jRL) (hX : va_X b Ls xs (gS G) (gS G).heap ∧ b < (gS G).heap.size ∧ ¬ gA G b) (hV : jV (gA G) (gS G) (gS G).heap) (hU : jU sa sb (gA G) (gS G) (gS G).heap) (hl0 : (gL G).stackTraces = false) (hb9 : k9 + 27 + (B.1 - jcz Z5) ≤ 601024) (hn9 : n9 + 600 + (B.2 - jsz Z5) ≤ 7293034) (K23 : Nat → Nat → Nat → Int32 → jZ → jI → jL → Prop) (hK23 : ∀ (v1 : Nat) (v2 : Nat) (v3 : Nat) (v4 : Int32) (Z : jZ) (I : jI) (L : jL), SH Z → jext Z0 Z → jle Z5 Z → jin B Z → jk Z v1 11 → jk Z v2 12 → jk Z v3 15 → K23 v1 v2 v3 v4 Z I L → jJ G 8 23 [(0, .ref b), (1, .ref v1), (2, .ref v2), (3, .ref v3), (4, .int v4)] [] Z I L (k9 + (jcz Z - jcz Z5) + 27) (n9 + (jsz Z - jsz Z5) + 600)) (v1 : Nat) (v2 : Nat) (v3 : Nat) (v4 : Int32) (Z : jZ) (I : jI) (L : jL) (hZ : SH Z) (hx : jext Z0 Z) (hc : jle Z5 Z) (hb : jin B Z) (kv1 : jk Z v1 11) (kv2 : jk Z v2 12) (kv3 : jk Z v3 15) (h : f_L_law_b1197 xs Ls B K23 v1 v2 v3 v4 Z I L) : jJ G 8 1197 [(0, .ref b), (1, .ref v1), (2, .ref v2), (3, .ref v3), (4, .int v4)] [] Z I L (k9 + (jcz Z - jcz Z5) + 0) (n9 + (jsz Z - jsz Z5) + 0) := by
  unfold f_L_law_b1197 at h
  refine j_aload_n E dL_law_1197 1 rfl ?_
  refine j_aload_n E dL_law_1198 0 rfl ?_
  refine j_iload E dL_law_1199 4 rfl ?_
  refine j_iconst E (v := 1) dL_law_1201 (by decide) ?_
  refine j_iadd E dL_law_1202 ?_
  obtain ⟨o564, h⟩ := h
  refine j_sld E hX.1 hX.2.1 hX.2.2 o564 dL_law_1203 ?_
  refine j_callV E [.int (xs (v4 + (1 : Int32)).toNatClampNeg)] [] (c_X11_mends (gL G) (gD G) (gY G) v1 (xs (v4 + (1 : Int32)).toNatClampNeg) Z I L _ hZ kv1 h) (gwV W_1429 W_1430 W_1431 W_40 W_1428) rfl ⟨rfl, fy_X11_mends⟩ ⟨by decide, by decide⟩ (c := 11) rfl (by decide) kv1 rfl rfl (Nat.le_of_ble_eq_true rfl) ⟨by show k9 + (jcz Z - jcz Z5) + 0 + 0 ≤ 601024; have := hb.1; omega, by show n9 + (jsz Z - jsz Z5) + 0 + 0 ≤ 7293034; have := hb.2; omega⟩ dL_law_1204 (fun v565 Z566 I567 L568 q569 => ?_)
  obtain ⟨rfl, r571, rfl, h⟩ := q569
  show jJ G 8 1207 [(0, .ref b), (1, .ref v1), (2, .ref v2), (3, .ref v3), (4, .int v4)] [.int r571] Z I567 L568 (k9 + (jcz Z - jcz Z5) + 0) (n9 + (jsz Z - jsz Z5) + 0)
  refine j_pop E dL_law_1207 rfl ?_
  refine j_aload_n E dL_law_1208 2 rfl ?_
  refine j_aload_n E dL_law_1209 0 rfl ?_
  refine j_iload E dL_law_1210 4 rfl ?_
  refine j_iconst E (v := 1) dL_law_1212 (by decide) ?_
  refine j_iadd E dL_law_1213 ?_
  obtain ⟨o572, h⟩ := h
  refine j_sld E hX.1 hX.2.1 hX.2.2 o572 dL_law_1214 ?_
  refine j_callV E [.int (xs (v4 + (1 : Int32)).toNatClampNeg)] [] (c_X12_mends (gL G) (gD G) (gY G) v2 (xs (v4 + (1 : Int32)).toNatClampNeg) Z I567 L568 _ hZ kv2 h) (gwV W_1433 W_1434 W_1435 W_695 W_1432) rfl ⟨rfl, fy_X12_mends⟩ ⟨by decide, by decide⟩ (c := 12) rfl (by decide) kv2 rfl rfl (Nat.le_of_ble_eq_true rfl) ⟨by show k9 + (jcz Z - jcz Z5) + 0 + 0 ≤ 601024; have := hb.1; omega, by show n9 + (jsz Z - jsz Z5) + 0 + 0 ≤ 7293034; have := hb.2; omega⟩ dL_law_1215 (fun v573 Z574 I575 L576 q577 => ?_)
  obtain ⟨rfl, r579, rfl, h⟩ := q577
  show jJ G 8 1218 [(0, .ref b), (1, .ref v1), (2, .ref v2), (3, .ref v3), (4, .int v4)] [.int r579] Z I575 L576 (k9 + (jcz Z - jcz Z5) + 0) (n9 + (jsz Z - jsz Z5) + 0)
  refine j_pop E dL_law_1218 rfl ?_
  refine j_goto E 1760 dL_law_1219 (by decide) ?_
  refine j_sub [0, 1, 2, 3, 4] rfl ?_
  refine j_widen (k9 := k9 + (jcz Z - jcz Z5) + 27) (n9 := n9 + (jsz Z - jsz Z5) + 600) (by show k9 + (jcz Z - jcz Z5) + 0 ≤ _; omega) (by show n9 + (jsz Z - jsz Z5) + 0 ≤ _; omega) ?_
  exact m_L_law_b1760 E hX hV hU hl0 hb9 hn9 K23 hK23 v1 v2 v3 v4 Z I575 L576 hZ hx hc hb kv1 kv2 kv3 h
set_option maxRecDepth 100000 in
def f_L_law_b1222 (xs : Nat → Int32) (Ls : Nat) (B : Nat × Nat) (K23 : Nat → Nat → Nat → Int32 → jZ → jI → jL → Prop) (v1 : Nat) (v2 : Nat) (v3 : Nat) (v4 : Int32) (Z : jZ) (I : jI) (L : jL) : Prop := (vp_in (v4 + (1 : Int32)) Ls ∧ (f_X11_shut B v1 (xs (v4 + (1 : Int32)).toNatClampNeg) Z I L (fun r587 Z582 I583 L584 => (vp_in (v4 + (1 : Int32)) Ls ∧ (f_X12_shut B v2 (xs (v4 + (1 : Int32)).toNatClampNeg) Z582 I583 L584 (fun r598 Z593 I594 L595 => f_L_law_b1760 xs Ls B K23 v1 v2 v3 v4 Z593 I594 L595))))))
set_option maxHeartbeats 4000000 in
set_option maxRecDepth 100000 in
theorem m_L_law_b1222 {G : jG} {Z0 : jZ} {xs : Nat → Int32} {Ls b k9 n9 sa sb : Nat} {B : Nat × Nat} {Z5 : jZ} (E : jE G cL_law RL (Cond.arrayClass .byte :: jT) 8 (some .boolean) room_1 jRL) (hX : va_X b Ls xs (gS G) (gS G).heap ∧ b < (gS G).heap.size ∧ ¬ gA G b) (hV : jV (gA G) (gS G) (gS G).heap) (hU : jU sa sb (gA G) (gS G) (gS G).heap) (hl0 : (gL G).stackTraces = false) (hb9 : k9 + 27 + (B.1 - jcz Z5) ≤ 601024) (hn9 : n9 + 600 + (B.2 - jsz Z5) ≤ 7293034) (K23 : Nat → Nat → Nat → Int32 → jZ → jI → jL → Prop) (hK23 : ∀ (v1 : Nat) (v2 : Nat) (v3 : Nat) (v4 : Int32) (Z : jZ) (I : jI) (L : jL), SH Z → jext Z0 Z → jle Z5 Z → jin B Z → jk Z v1 11 → jk Z v2 12 → jk Z v3 15 → K23 v1 v2 v3 v4 Z I L → jJ G 8 23 [(0, .ref b), (1, .ref v1), (2, .ref v2), (3, .ref v3), (4, .int v4)] [] Z I L (k9 + (jcz Z - jcz Z5) + 27) (n9 + (jsz Z - jsz Z5) + 600)) (v1 : Nat) (v2 : Nat) (v3 : Nat) (v4 : Int32) (Z : jZ) (I : jI) (L : jL) (hZ : SH Z) (hx : jext Z0 Z) (hc : jle Z5 Z) (hb : jin B Z) (kv1 : jk Z v1 11) (kv2 : jk Z v2 12) (kv3 : jk Z v3 15) (h : f_L_law_b1222 xs Ls B K23 v1 v2 v3 v4 Z I L) : jJ G 8 1222 [(0, .ref b), (1, .ref v1), (2, .ref v2), (3, .ref v3), (4, .int v4)] [] Z I L (k9 + (jcz Z - jcz Z5) + 0) (n9 + (jsz Z - jsz Z5) + 0) := by
  unfold f_L_law_b1222 at h
  refine j_aload_n E dL_law_1222 1 rfl ?_
  refine j_aload_n E dL_law_1223 0 rfl ?_
  refine j_iload E dL_law_1224 4 rfl ?_
  refine j_iconst E (v := 1) dL_law_1226 (by decide) ?_
  refine j_iadd E dL_law_1227 ?_
  obtain ⟨o580, h⟩ := h
  refine j_sld E hX.1 hX.2.1 hX.2.2 o580 dL_law_1228 ?_
  refine ju_callV E [.int (xs (v4 + (1 : Int32)).toNatClampNeg)] [] (c_X11_shut (gL G) (gD G) (gY G) B v1 (xs (v4 + (1 : Int32)).toNatClampNeg) Z I L _ hZ hb kv1 h) (gwV W_1437 W_1438 W_1439 W_40 W_1436) rfl ⟨rfl, fy_X11_shut⟩ ⟨by decide, by decide⟩ (c := 11) rfl (by decide) kv1 rfl rfl (Nat.le_of_ble_eq_true rfl) ⟨by show k9 + (jcz Z - jcz Z5) + 0 + (B.1 - jcz Z) ≤ 601024; have := hb.1; have := hc.1; omega, by show n9 + (jsz Z - jsz Z5) + 0 + (B.2 - jsz Z) ≤ 7293034; have := hb.2; have := hc.2; omega⟩ dL_law_1229 (fun v581 Z582 I583 L584 q585 j586 => ?_)
  refine j_kn (k' := k9 + (jcz Z582 - jcz Z5) + 0) (n' := n9 + (jsz Z582 - jsz Z5) + 0) (by have := hc.1; have := j586.1; omega) (by have := hc.2; have := j586.2; omega) ?_
  have hc := jle_trans hc j586
  obtain ⟨yZ582, hZ582, hbZ582, r587, rfl, h⟩ := q585
  have hZ := hZ582
  have hx : jext Z0 Z582 := jext_trans hx yZ582
  have hb := hbZ582
  have k588 := (yZ582 _ _ kv1).1
  have k589 := (yZ582 _ _ kv2).1
  have k590 := (yZ582 _ _ kv3).1
  show jJ G 8 1232 [(0, .ref b), (1, .ref v1), (2, .ref v2), (3, .ref v3), (4, .int v4)] [.int r587] Z582 I583 L584 (k9 + (jcz Z582 - jcz Z5) + 0) (n9 + (jsz Z582 - jsz Z5) + 0)
  refine j_pop E dL_law_1232 rfl ?_
  refine j_aload_n E dL_law_1233 2 rfl ?_
  refine j_aload_n E dL_law_1234 0 rfl ?_
  refine j_iload E dL_law_1235 4 rfl ?_
  refine j_iconst E (v := 1) dL_law_1237 (by decide) ?_
  refine j_iadd E dL_law_1238 ?_
  obtain ⟨o591, h⟩ := h
  refine j_sld E hX.1 hX.2.1 hX.2.2 o591 dL_law_1239 ?_
  refine ju_callV E [.int (xs (v4 + (1 : Int32)).toNatClampNeg)] [] (c_X12_shut (gL G) (gD G) (gY G) B v2 (xs (v4 + (1 : Int32)).toNatClampNeg) Z582 I583 L584 _ hZ hb k589 h) (gwV W_1441 W_1442 W_1443 W_695 W_1440) rfl ⟨rfl, fy_X12_shut⟩ ⟨by decide, by decide⟩ (c := 12) rfl (by decide) k589 rfl rfl (Nat.le_of_ble_eq_true rfl) ⟨by show k9 + (jcz Z582 - jcz Z5) + 0 + (B.1 - jcz Z582) ≤ 601024; have := hb.1; have := hc.1; omega, by show n9 + (jsz Z582 - jsz Z5) + 0 + (B.2 - jsz Z582) ≤ 7293034; have := hb.2; have := hc.2; omega⟩ dL_law_1240 (fun v592 Z593 I594 L595 q596 j597 => ?_)
  refine j_kn (k' := k9 + (jcz Z593 - jcz Z5) + 0) (n' := n9 + (jsz Z593 - jsz Z5) + 0) (by have := hc.1; have := j597.1; omega) (by have := hc.2; have := j597.2; omega) ?_
  have hc := jle_trans hc j597
  obtain ⟨yZ593, hZ593, hbZ593, r598, rfl, h⟩ := q596
  have hZ := hZ593
  have hx : jext Z0 Z593 := jext_trans hx yZ593
  have hb := hbZ593
  have k599 := (yZ593 _ _ k588).1
  have k600 := (yZ593 _ _ k589).1
  have k601 := (yZ593 _ _ k590).1
  show jJ G 8 1243 [(0, .ref b), (1, .ref v1), (2, .ref v2), (3, .ref v3), (4, .int v4)] [.int r598] Z593 I594 L595 (k9 + (jcz Z593 - jcz Z5) + 0) (n9 + (jsz Z593 - jsz Z5) + 0)
  refine j_pop E dL_law_1243 rfl ?_
  refine j_goto E 1760 dL_law_1244 (by decide) ?_
  refine j_sub [0, 1, 2, 3, 4] rfl ?_
  refine j_widen (k9 := k9 + (jcz Z593 - jcz Z5) + 27) (n9 := n9 + (jsz Z593 - jsz Z5) + 600) (by show k9 + (jcz Z593 - jcz Z5) + 0 ≤ _; omega) (by show n9 + (jsz Z593 - jsz Z5) + 0 ≤ _; omega) ?_
  exact m_L_law_b1760 E hX hV hU hl0 hb9 hn9 K23 hK23 v1 v2 v3 v4 Z593 I594 L595 hZ hx hc hb k599 k600 k601 h
set_option maxRecDepth 100000 in
def f_L_law_b1247 (xs : Nat → Int32) (Ls : Nat) (B : Nat × Nat) (K23 : Nat → Nat → Nat → Int32 → jZ → jI → jL → Prop) (v1 : Nat) (v2 : Nat) (v3 : Nat) (v4 : Int32) (Z : jZ) (I : jI) (L : jL) : Prop := (vp_in (v4 + (1 : Int32)) Ls ∧ (f_X11_toll B v1 (xs (v4 + (1 : Int32)).toNatClampNeg) Z I L (fun r609 Z604 I605 L606 => (vp_in (v4 + (1 : Int32)) Ls ∧ (f_X12_toll B v2 (xs (v4 + (1 : Int32)).toNatClampNeg) Z604 I605 L606 (fun r620 Z615 I616 L617 => f_L_law_b1760 xs Ls B K23 v1 v2 v3 v4 Z615 I616 L617))))))
set_option maxHeartbeats 4000000 in
set_option maxRecDepth 100000 in
theorem m_L_law_b1247 {G : jG} {Z0 : jZ} {xs : Nat → Int32} {Ls b k9 n9 sa sb : Nat} {B : Nat × Nat} {Z5 : jZ} (E : jE G cL_law RL (Cond.arrayClass .byte :: jT) 8 (some .boolean) room_1 jRL) (hX : va_X b Ls xs (gS G) (gS G).heap ∧ b < (gS G).heap.size ∧ ¬ gA G b) (hV : jV (gA G) (gS G) (gS G).heap) (hU : jU sa sb (gA G) (gS G) (gS G).heap) (hl0 : (gL G).stackTraces = false) (hb9 : k9 + 27 + (B.1 - jcz Z5) ≤ 601024) (hn9 : n9 + 600 + (B.2 - jsz Z5) ≤ 7293034) (K23 : Nat → Nat → Nat → Int32 → jZ → jI → jL → Prop) (hK23 : ∀ (v1 : Nat) (v2 : Nat) (v3 : Nat) (v4 : Int32) (Z : jZ) (I : jI) (L : jL), SH Z → jext Z0 Z → jle Z5 Z → jin B Z → jk Z v1 11 → jk Z v2 12 → jk Z v3 15 → K23 v1 v2 v3 v4 Z I L → jJ G 8 23 [(0, .ref b), (1, .ref v1), (2, .ref v2), (3, .ref v3), (4, .int v4)] [] Z I L (k9 + (jcz Z - jcz Z5) + 27) (n9 + (jsz Z - jsz Z5) + 600)) (v1 : Nat) (v2 : Nat) (v3 : Nat) (v4 : Int32) (Z : jZ) (I : jI) (L : jL) (hZ : SH Z) (hx : jext Z0 Z) (hc : jle Z5 Z) (hb : jin B Z) (kv1 : jk Z v1 11) (kv2 : jk Z v2 12) (kv3 : jk Z v3 15) (h : f_L_law_b1247 xs Ls B K23 v1 v2 v3 v4 Z I L) : jJ G 8 1247 [(0, .ref b), (1, .ref v1), (2, .ref v2), (3, .ref v3), (4, .int v4)] [] Z I L (k9 + (jcz Z - jcz Z5) + 0) (n9 + (jsz Z - jsz Z5) + 0) := by
  unfold f_L_law_b1247 at h
  refine j_aload_n E dL_law_1247 1 rfl ?_
  refine j_aload_n E dL_law_1248 0 rfl ?_
  refine j_iload E dL_law_1249 4 rfl ?_
  refine j_iconst E (v := 1) dL_law_1251 (by decide) ?_
  refine j_iadd E dL_law_1252 ?_
  obtain ⟨o602, h⟩ := h
  refine j_sld E hX.1 hX.2.1 hX.2.2 o602 dL_law_1253 ?_
  refine ju_callV E [.int (xs (v4 + (1 : Int32)).toNatClampNeg)] [] (c_X11_toll (gL G) (gD G) (gY G) B v1 (xs (v4 + (1 : Int32)).toNatClampNeg) Z I L _ hZ hb kv1 h) (gwV W_1445 W_1446 W_1447 W_40 W_1444) rfl ⟨rfl, fy_X11_toll⟩ ⟨by decide, by decide⟩ (c := 11) rfl (by decide) kv1 rfl rfl (Nat.le_of_ble_eq_true rfl) ⟨by show k9 + (jcz Z - jcz Z5) + 0 + (B.1 - jcz Z) ≤ 601024; have := hb.1; have := hc.1; omega, by show n9 + (jsz Z - jsz Z5) + 0 + (B.2 - jsz Z) ≤ 7293034; have := hb.2; have := hc.2; omega⟩ dL_law_1254 (fun v603 Z604 I605 L606 q607 j608 => ?_)
  refine j_kn (k' := k9 + (jcz Z604 - jcz Z5) + 0) (n' := n9 + (jsz Z604 - jsz Z5) + 0) (by have := hc.1; have := j608.1; omega) (by have := hc.2; have := j608.2; omega) ?_
  have hc := jle_trans hc j608
  obtain ⟨yZ604, hZ604, hbZ604, r609, rfl, h⟩ := q607
  have hZ := hZ604
  have hx : jext Z0 Z604 := jext_trans hx yZ604
  have hb := hbZ604
  have k610 := (yZ604 _ _ kv1).1
  have k611 := (yZ604 _ _ kv2).1
  have k612 := (yZ604 _ _ kv3).1
  show jJ G 8 1257 [(0, .ref b), (1, .ref v1), (2, .ref v2), (3, .ref v3), (4, .int v4)] [.int r609] Z604 I605 L606 (k9 + (jcz Z604 - jcz Z5) + 0) (n9 + (jsz Z604 - jsz Z5) + 0)
  refine j_pop E dL_law_1257 rfl ?_
  refine j_aload_n E dL_law_1258 2 rfl ?_
  refine j_aload_n E dL_law_1259 0 rfl ?_
  refine j_iload E dL_law_1260 4 rfl ?_
  refine j_iconst E (v := 1) dL_law_1262 (by decide) ?_
  refine j_iadd E dL_law_1263 ?_
  obtain ⟨o613, h⟩ := h
  refine j_sld E hX.1 hX.2.1 hX.2.2 o613 dL_law_1264 ?_
  refine ju_callV E [.int (xs (v4 + (1 : Int32)).toNatClampNeg)] [] (c_X12_toll (gL G) (gD G) (gY G) B v2 (xs (v4 + (1 : Int32)).toNatClampNeg) Z604 I605 L606 _ hZ hb k611 h) (gwV W_1449 W_1450 W_1451 W_695 W_1448) rfl ⟨rfl, fy_X12_toll⟩ ⟨by decide, by decide⟩ (c := 12) rfl (by decide) k611 rfl rfl (Nat.le_of_ble_eq_true rfl) ⟨by show k9 + (jcz Z604 - jcz Z5) + 0 + (B.1 - jcz Z604) ≤ 601024; have := hb.1; have := hc.1; omega, by show n9 + (jsz Z604 - jsz Z5) + 0 + (B.2 - jsz Z604) ≤ 7293034; have := hb.2; have := hc.2; omega⟩ dL_law_1265 (fun v614 Z615 I616 L617 q618 j619 => ?_)
  refine j_kn (k' := k9 + (jcz Z615 - jcz Z5) + 0) (n' := n9 + (jsz Z615 - jsz Z5) + 0) (by have := hc.1; have := j619.1; omega) (by have := hc.2; have := j619.2; omega) ?_
  have hc := jle_trans hc j619
  obtain ⟨yZ615, hZ615, hbZ615, r620, rfl, h⟩ := q618
  have hZ := hZ615
  have hx : jext Z0 Z615 := jext_trans hx yZ615
  have hb := hbZ615
  have k621 := (yZ615 _ _ k610).1
  have k622 := (yZ615 _ _ k611).1
  have k623 := (yZ615 _ _ k612).1
  show jJ G 8 1268 [(0, .ref b), (1, .ref v1), (2, .ref v2), (3, .ref v3), (4, .int v4)] [.int r620] Z615 I616 L617 (k9 + (jcz Z615 - jcz Z5) + 0) (n9 + (jsz Z615 - jsz Z5) + 0)
  refine j_pop E dL_law_1268 rfl ?_
  refine j_goto E 1760 dL_law_1269 (by decide) ?_
  refine j_sub [0, 1, 2, 3, 4] rfl ?_
  refine j_widen (k9 := k9 + (jcz Z615 - jcz Z5) + 27) (n9 := n9 + (jsz Z615 - jsz Z5) + 600) (by show k9 + (jcz Z615 - jcz Z5) + 0 ≤ _; omega) (by show n9 + (jsz Z615 - jsz Z5) + 0 ≤ _; omega) ?_
  exact m_L_law_b1760 E hX hV hU hl0 hb9 hn9 K23 hK23 v1 v2 v3 v4 Z615 I616 L617 hZ hx hc hb k621 k622 k623 h
set_option maxRecDepth 100000 in
def f_L_law_b1272 (xs : Nat → Int32) (Ls : Nat) (B : Nat × Nat) (K23 : Nat → Nat → Nat → Int32 → jZ → jI → jL → Prop) (v1 : Nat) (v2 : Nat) (v3 : Nat) (v4 : Int32) (Z : jZ) (I : jI) (L : jL) : Prop := (f_X11_peace B v1 Z I L (fun r630 Z625 I626 L627 => (f_X12_peace B v2 Z625 I626 L627 (fun r640 Z635 I636 L637 => f_L_law_b1760 xs Ls B K23 v1 v2 v3 v4 Z635 I636 L637))))
set_option maxHeartbeats 4000000 in
set_option maxRecDepth 100000 in
theorem m_L_law_b1272 {G : jG} {Z0 : jZ} {xs : Nat → Int32} {Ls b k9 n9 sa sb : Nat} {B : Nat × Nat} {Z5 : jZ} (E : jE G cL_law RL (Cond.arrayClass .byte :: jT) 8 (some .boolean) room_1 jRL) (hX : va_X b Ls xs (gS G) (gS G).heap ∧ b < (gS G).heap.size ∧ ¬ gA G b) (hV : jV (gA G) (gS G) (gS G).heap) (hU : jU sa sb (gA G) (gS G) (gS G).heap) (hl0 : (gL G).stackTraces = false) (hb9 : k9 + 27 + (B.1 - jcz Z5) ≤ 601024) (hn9 : n9 + 600 + (B.2 - jsz Z5) ≤ 7293034) (K23 : Nat → Nat → Nat → Int32 → jZ → jI → jL → Prop) (hK23 : ∀ (v1 : Nat) (v2 : Nat) (v3 : Nat) (v4 : Int32) (Z : jZ) (I : jI) (L : jL), SH Z → jext Z0 Z → jle Z5 Z → jin B Z → jk Z v1 11 → jk Z v2 12 → jk Z v3 15 → K23 v1 v2 v3 v4 Z I L → jJ G 8 23 [(0, .ref b), (1, .ref v1), (2, .ref v2), (3, .ref v3), (4, .int v4)] [] Z I L (k9 + (jcz Z - jcz Z5) + 27) (n9 + (jsz Z - jsz Z5) + 600)) (v1 : Nat) (v2 : Nat) (v3 : Nat) (v4 : Int32) (Z : jZ) (I : jI) (L : jL) (hZ : SH Z) (hx : jext Z0 Z) (hc : jle Z5 Z) (hb : jin B Z) (kv1 : jk Z v1 11) (kv2 : jk Z v2 12) (kv3 : jk Z v3 15) (h : f_L_law_b1272 xs Ls B K23 v1 v2 v3 v4 Z I L) : jJ G 8 1272 [(0, .ref b), (1, .ref v1), (2, .ref v2), (3, .ref v3), (4, .int v4)] [] Z I L (k9 + (jcz Z - jcz Z5) + 0) (n9 + (jsz Z - jsz Z5) + 0) := by
  unfold f_L_law_b1272 at h
  refine j_aload_n E dL_law_1272 1 rfl ?_
  refine ju_callV E [] [] (c_X11_peace (gL G) (gD G) (gY G) B v1 Z I L _ hZ hb kv1 h) (gwV W_1453 W_1454 W_1455 W_40 W_1452) rfl ⟨rfl, fy_X11_peace⟩ ⟨by decide, by decide⟩ (c := 11) rfl (by decide) kv1 rfl rfl (Nat.le_of_ble_eq_true rfl) ⟨by show k9 + (jcz Z - jcz Z5) + 0 + (B.1 - jcz Z) ≤ 601024; have := hb.1; have := hc.1; omega, by show n9 + (jsz Z - jsz Z5) + 0 + (B.2 - jsz Z) ≤ 7293034; have := hb.2; have := hc.2; omega⟩ dL_law_1273 (fun v624 Z625 I626 L627 q628 j629 => ?_)
  refine j_kn (k' := k9 + (jcz Z625 - jcz Z5) + 0) (n' := n9 + (jsz Z625 - jsz Z5) + 0) (by have := hc.1; have := j629.1; omega) (by have := hc.2; have := j629.2; omega) ?_
  have hc := jle_trans hc j629
  obtain ⟨yZ625, hZ625, hbZ625, r630, rfl, h⟩ := q628
  have hZ := hZ625
  have hx : jext Z0 Z625 := jext_trans hx yZ625
  have hb := hbZ625
  have k631 := (yZ625 _ _ kv1).1
  have k632 := (yZ625 _ _ kv2).1
  have k633 := (yZ625 _ _ kv3).1
  show jJ G 8 1276 [(0, .ref b), (1, .ref v1), (2, .ref v2), (3, .ref v3), (4, .int v4)] [.int r630] Z625 I626 L627 (k9 + (jcz Z625 - jcz Z5) + 0) (n9 + (jsz Z625 - jsz Z5) + 0)
  refine j_pop E dL_law_1276 rfl ?_
  refine j_aload_n E dL_law_1277 2 rfl ?_
  refine ju_callV E [] [] (c_X12_peace (gL G) (gD G) (gY G) B v2 Z625 I626 L627 _ hZ hb k632 h) (gwV W_1457 W_1458 W_1459 W_695 W_1456) rfl ⟨rfl, fy_X12_peace⟩ ⟨by decide, by decide⟩ (c := 12) rfl (by decide) k632 rfl rfl (Nat.le_of_ble_eq_true rfl) ⟨by show k9 + (jcz Z625 - jcz Z5) + 0 + (B.1 - jcz Z625) ≤ 601024; have := hb.1; have := hc.1; omega, by show n9 + (jsz Z625 - jsz Z5) + 0 + (B.2 - jsz Z625) ≤ 7293034; have := hb.2; have := hc.2; omega⟩ dL_law_1278 (fun v634 Z635 I636 L637 q638 j639 => ?_)
  refine j_kn (k' := k9 + (jcz Z635 - jcz Z5) + 0) (n' := n9 + (jsz Z635 - jsz Z5) + 0) (by have := hc.1; have := j639.1; omega) (by have := hc.2; have := j639.2; omega) ?_
  have hc := jle_trans hc j639
  obtain ⟨yZ635, hZ635, hbZ635, r640, rfl, h⟩ := q638
  have hZ := hZ635
  have hx : jext Z0 Z635 := jext_trans hx yZ635
  have hb := hbZ635
  have k641 := (yZ635 _ _ k631).1
  have k642 := (yZ635 _ _ k632).1
  have k643 := (yZ635 _ _ k633).1
  show jJ G 8 1281 [(0, .ref b), (1, .ref v1), (2, .ref v2), (3, .ref v3), (4, .int v4)] [.int r640] Z635 I636 L637 (k9 + (jcz Z635 - jcz Z5) + 0) (n9 + (jsz Z635 - jsz Z5) + 0)
  refine j_pop E dL_law_1281 rfl ?_
  refine j_goto E 1760 dL_law_1282 (by decide) ?_
  refine j_sub [0, 1, 2, 3, 4] rfl ?_
  refine j_widen (k9 := k9 + (jcz Z635 - jcz Z5) + 27) (n9 := n9 + (jsz Z635 - jsz Z5) + 600) (by show k9 + (jcz Z635 - jcz Z5) + 0 ≤ _; omega) (by show n9 + (jsz Z635 - jsz Z5) + 0 ≤ _; omega) ?_
  exact m_L_law_b1760 E hX hV hU hl0 hb9 hn9 K23 hK23 v1 v2 v3 v4 Z635 I636 L637 hZ hx hc hb k641 k642 k643 h
set_option maxRecDepth 100000 in
def f_L_law_b1285 (xs : Nat → Int32) (Ls : Nat) (B : Nat × Nat) (K23 : Nat → Nat → Nat → Int32 → jZ → jI → jL → Prop) (v1 : Nat) (v2 : Nat) (v3 : Nat) (v4 : Int32) (Z : jZ) (I : jI) (L : jL) : Prop := (vp_in (v4 + (1 : Int32)) Ls ∧ (f_X11_lamps v1 (xs (v4 + (1 : Int32)).toNatClampNeg) Z I L (fun r651 I647 L648 => (vp_in (v4 + (1 : Int32)) Ls ∧ (f_X12_lamps v2 (xs (v4 + (1 : Int32)).toNatClampNeg) Z I647 L648 (fun r659 I655 L656 => f_L_law_b1760 xs Ls B K23 v1 v2 v3 v4 Z I655 L656))))))
set_option maxHeartbeats 4000000 in
set_option maxRecDepth 100000 in
theorem m_L_law_b1285 {G : jG} {Z0 : jZ} {xs : Nat → Int32} {Ls b k9 n9 sa sb : Nat} {B : Nat × Nat} {Z5 : jZ} (E : jE G cL_law RL (Cond.arrayClass .byte :: jT) 8 (some .boolean) room_1 jRL) (hX : va_X b Ls xs (gS G) (gS G).heap ∧ b < (gS G).heap.size ∧ ¬ gA G b) (hV : jV (gA G) (gS G) (gS G).heap) (hU : jU sa sb (gA G) (gS G) (gS G).heap) (hl0 : (gL G).stackTraces = false) (hb9 : k9 + 27 + (B.1 - jcz Z5) ≤ 601024) (hn9 : n9 + 600 + (B.2 - jsz Z5) ≤ 7293034) (K23 : Nat → Nat → Nat → Int32 → jZ → jI → jL → Prop) (hK23 : ∀ (v1 : Nat) (v2 : Nat) (v3 : Nat) (v4 : Int32) (Z : jZ) (I : jI) (L : jL), SH Z → jext Z0 Z → jle Z5 Z → jin B Z → jk Z v1 11 → jk Z v2 12 → jk Z v3 15 → K23 v1 v2 v3 v4 Z I L → jJ G 8 23 [(0, .ref b), (1, .ref v1), (2, .ref v2), (3, .ref v3), (4, .int v4)] [] Z I L (k9 + (jcz Z - jcz Z5) + 27) (n9 + (jsz Z - jsz Z5) + 600)) (v1 : Nat) (v2 : Nat) (v3 : Nat) (v4 : Int32) (Z : jZ) (I : jI) (L : jL) (hZ : SH Z) (hx : jext Z0 Z) (hc : jle Z5 Z) (hb : jin B Z) (kv1 : jk Z v1 11) (kv2 : jk Z v2 12) (kv3 : jk Z v3 15) (h : f_L_law_b1285 xs Ls B K23 v1 v2 v3 v4 Z I L) : jJ G 8 1285 [(0, .ref b), (1, .ref v1), (2, .ref v2), (3, .ref v3), (4, .int v4)] [] Z I L (k9 + (jcz Z - jcz Z5) + 0) (n9 + (jsz Z - jsz Z5) + 0) := by
  unfold f_L_law_b1285 at h
  refine j_aload_n E dL_law_1285 1 rfl ?_
  refine j_aload_n E dL_law_1286 0 rfl ?_
  refine j_iload E dL_law_1287 4 rfl ?_
  refine j_iconst E (v := 1) dL_law_1289 (by decide) ?_
  refine j_iadd E dL_law_1290 ?_
  obtain ⟨o644, h⟩ := h
  refine j_sld E hX.1 hX.2.1 hX.2.2 o644 dL_law_1291 ?_
  refine j_callV E [.int (xs (v4 + (1 : Int32)).toNatClampNeg)] [] (c_X11_lamps (gL G) (gD G) (gY G) v1 (xs (v4 + (1 : Int32)).toNatClampNeg) Z I L _ hZ kv1 h) (gwV W_1461 W_1462 W_1463 W_40 W_1460) rfl ⟨rfl, fy_X11_lamps⟩ ⟨by decide, by decide⟩ (c := 11) rfl (by decide) kv1 rfl rfl (Nat.le_of_ble_eq_true rfl) ⟨by show k9 + (jcz Z - jcz Z5) + 0 + 0 ≤ 601024; have := hb.1; omega, by show n9 + (jsz Z - jsz Z5) + 0 + 0 ≤ 7293034; have := hb.2; omega⟩ dL_law_1292 (fun v645 Z646 I647 L648 q649 => ?_)
  obtain ⟨rfl, r651, rfl, h⟩ := q649
  show jJ G 8 1295 [(0, .ref b), (1, .ref v1), (2, .ref v2), (3, .ref v3), (4, .int v4)] [.int r651] Z I647 L648 (k9 + (jcz Z - jcz Z5) + 0) (n9 + (jsz Z - jsz Z5) + 0)
  refine j_pop E dL_law_1295 rfl ?_
  refine j_aload_n E dL_law_1296 2 rfl ?_
  refine j_aload_n E dL_law_1297 0 rfl ?_
  refine j_iload E dL_law_1298 4 rfl ?_
  refine j_iconst E (v := 1) dL_law_1300 (by decide) ?_
  refine j_iadd E dL_law_1301 ?_
  obtain ⟨o652, h⟩ := h
  refine j_sld E hX.1 hX.2.1 hX.2.2 o652 dL_law_1302 ?_
  refine j_callV E [.int (xs (v4 + (1 : Int32)).toNatClampNeg)] [] (c_X12_lamps (gL G) (gD G) (gY G) v2 (xs (v4 + (1 : Int32)).toNatClampNeg) Z I647 L648 _ hZ kv2 h) (gwV W_1465 W_1466 W_1467 W_695 W_1464) rfl ⟨rfl, fy_X12_lamps⟩ ⟨by decide, by decide⟩ (c := 12) rfl (by decide) kv2 rfl rfl (Nat.le_of_ble_eq_true rfl) ⟨by show k9 + (jcz Z - jcz Z5) + 0 + 0 ≤ 601024; have := hb.1; omega, by show n9 + (jsz Z - jsz Z5) + 0 + 0 ≤ 7293034; have := hb.2; omega⟩ dL_law_1303 (fun v653 Z654 I655 L656 q657 => ?_)
  obtain ⟨rfl, r659, rfl, h⟩ := q657
  show jJ G 8 1306 [(0, .ref b), (1, .ref v1), (2, .ref v2), (3, .ref v3), (4, .int v4)] [.int r659] Z I655 L656 (k9 + (jcz Z - jcz Z5) + 0) (n9 + (jsz Z - jsz Z5) + 0)
  refine j_pop E dL_law_1306 rfl ?_
  refine j_goto E 1760 dL_law_1307 (by decide) ?_
  refine j_sub [0, 1, 2, 3, 4] rfl ?_
  refine j_widen (k9 := k9 + (jcz Z - jcz Z5) + 27) (n9 := n9 + (jsz Z - jsz Z5) + 600) (by show k9 + (jcz Z - jcz Z5) + 0 ≤ _; omega) (by show n9 + (jsz Z - jsz Z5) + 0 ≤ _; omega) ?_
  exact m_L_law_b1760 E hX hV hU hl0 hb9 hn9 K23 hK23 v1 v2 v3 v4 Z I655 L656 hZ hx hc hb kv1 kv2 kv3 h
set_option maxRecDepth 100000 in
def f_L_law_b1310 (xs : Nat → Int32) (Ls : Nat) (B : Nat × Nat) (K23 : Nat → Nat → Nat → Int32 → jZ → jI → jL → Prop) (v1 : Nat) (v2 : Nat) (v3 : Nat) (v4 : Int32) (Z : jZ) (I : jI) (L : jL) : Prop := (vp_in (v4 + (1 : Int32)) Ls ∧ (vp_in (v4 + (2 : Int32)) Ls ∧ (f_X11_would B v1 (xs (v4 + (1 : Int32)).toNatClampNeg) (xs (v4 + (2 : Int32)).toNatClampNeg) Z I L (fun r668 Z663 I664 L665 => (vp_in (v4 + (1 : Int32)) Ls ∧ (vp_in (v4 + (2 : Int32)) Ls ∧ (f_X12_would B v2 (xs (v4 + (1 : Int32)).toNatClampNeg) (xs (v4 + (2 : Int32)).toNatClampNeg) Z663 I664 L665 (fun r680 Z675 I676 L677 => f_L_law_b1760 xs Ls B K23 v1 v2 v3 v4 Z675 I676 L677))))))))
set_option maxHeartbeats 4000000 in
set_option maxRecDepth 100000 in
theorem m_L_law_b1310 {G : jG} {Z0 : jZ} {xs : Nat → Int32} {Ls b k9 n9 sa sb : Nat} {B : Nat × Nat} {Z5 : jZ} (E : jE G cL_law RL (Cond.arrayClass .byte :: jT) 8 (some .boolean) room_1 jRL) (hX : va_X b Ls xs (gS G) (gS G).heap ∧ b < (gS G).heap.size ∧ ¬ gA G b) (hV : jV (gA G) (gS G) (gS G).heap) (hU : jU sa sb (gA G) (gS G) (gS G).heap) (hl0 : (gL G).stackTraces = false) (hb9 : k9 + 27 + (B.1 - jcz Z5) ≤ 601024) (hn9 : n9 + 600 + (B.2 - jsz Z5) ≤ 7293034) (K23 : Nat → Nat → Nat → Int32 → jZ → jI → jL → Prop) (hK23 : ∀ (v1 : Nat) (v2 : Nat) (v3 : Nat) (v4 : Int32) (Z : jZ) (I : jI) (L : jL), SH Z → jext Z0 Z → jle Z5 Z → jin B Z → jk Z v1 11 → jk Z v2 12 → jk Z v3 15 → K23 v1 v2 v3 v4 Z I L → jJ G 8 23 [(0, .ref b), (1, .ref v1), (2, .ref v2), (3, .ref v3), (4, .int v4)] [] Z I L (k9 + (jcz Z - jcz Z5) + 27) (n9 + (jsz Z - jsz Z5) + 600)) (v1 : Nat) (v2 : Nat) (v3 : Nat) (v4 : Int32) (Z : jZ) (I : jI) (L : jL) (hZ : SH Z) (hx : jext Z0 Z) (hc : jle Z5 Z) (hb : jin B Z) (kv1 : jk Z v1 11) (kv2 : jk Z v2 12) (kv3 : jk Z v3 15) (h : f_L_law_b1310 xs Ls B K23 v1 v2 v3 v4 Z I L) : jJ G 8 1310 [(0, .ref b), (1, .ref v1), (2, .ref v2), (3, .ref v3), (4, .int v4)] [] Z I L (k9 + (jcz Z - jcz Z5) + 0) (n9 + (jsz Z - jsz Z5) + 0) := by
  unfold f_L_law_b1310 at h
  refine j_aload_n E dL_law_1310 1 rfl ?_
  refine j_aload_n E dL_law_1311 0 rfl ?_
  refine j_iload E dL_law_1312 4 rfl ?_
  refine j_iconst E (v := 1) dL_law_1314 (by decide) ?_
  refine j_iadd E dL_law_1315 ?_
  obtain ⟨o660, h⟩ := h
  refine j_sld E hX.1 hX.2.1 hX.2.2 o660 dL_law_1316 ?_
  refine j_aload_n E dL_law_1317 0 rfl ?_
  refine j_iload E dL_law_1318 4 rfl ?_
  refine j_iconst E (v := 2) dL_law_1320 (by decide) ?_
  refine j_iadd E dL_law_1321 ?_
  obtain ⟨o661, h⟩ := h
  refine j_sld E hX.1 hX.2.1 hX.2.2 o661 dL_law_1322 ?_
  refine ju_callV E [.int (xs (v4 + (1 : Int32)).toNatClampNeg), .int (xs (v4 + (2 : Int32)).toNatClampNeg)] [] (c_X11_would (gL G) (gD G) (gY G) B v1 (xs (v4 + (1 : Int32)).toNatClampNeg) (xs (v4 + (2 : Int32)).toNatClampNeg) Z I L _ hZ hb kv1 h) (gwV W_1469 W_1470 W_1471 W_40 W_1468) rfl ⟨rfl, fy_X11_would⟩ ⟨by decide, by decide⟩ (c := 11) rfl (by decide) kv1 rfl rfl (Nat.le_of_ble_eq_true rfl) ⟨by show k9 + (jcz Z - jcz Z5) + 0 + (B.1 - jcz Z) ≤ 601024; have := hb.1; have := hc.1; omega, by show n9 + (jsz Z - jsz Z5) + 0 + (B.2 - jsz Z) ≤ 7293034; have := hb.2; have := hc.2; omega⟩ dL_law_1323 (fun v662 Z663 I664 L665 q666 j667 => ?_)
  refine j_kn (k' := k9 + (jcz Z663 - jcz Z5) + 0) (n' := n9 + (jsz Z663 - jsz Z5) + 0) (by have := hc.1; have := j667.1; omega) (by have := hc.2; have := j667.2; omega) ?_
  have hc := jle_trans hc j667
  obtain ⟨yZ663, hZ663, hbZ663, r668, rfl, h⟩ := q666
  have hZ := hZ663
  have hx : jext Z0 Z663 := jext_trans hx yZ663
  have hb := hbZ663
  have k669 := (yZ663 _ _ kv1).1
  have k670 := (yZ663 _ _ kv2).1
  have k671 := (yZ663 _ _ kv3).1
  show jJ G 8 1326 [(0, .ref b), (1, .ref v1), (2, .ref v2), (3, .ref v3), (4, .int v4)] [.int r668] Z663 I664 L665 (k9 + (jcz Z663 - jcz Z5) + 0) (n9 + (jsz Z663 - jsz Z5) + 0)
  refine j_pop E dL_law_1326 rfl ?_
  refine j_aload_n E dL_law_1327 2 rfl ?_
  refine j_aload_n E dL_law_1328 0 rfl ?_
  refine j_iload E dL_law_1329 4 rfl ?_
  refine j_iconst E (v := 1) dL_law_1331 (by decide) ?_
  refine j_iadd E dL_law_1332 ?_
  obtain ⟨o672, h⟩ := h
  refine j_sld E hX.1 hX.2.1 hX.2.2 o672 dL_law_1333 ?_
  refine j_aload_n E dL_law_1334 0 rfl ?_
  refine j_iload E dL_law_1335 4 rfl ?_
  refine j_iconst E (v := 2) dL_law_1337 (by decide) ?_
  refine j_iadd E dL_law_1338 ?_
  obtain ⟨o673, h⟩ := h
  refine j_sld E hX.1 hX.2.1 hX.2.2 o673 dL_law_1339 ?_
  refine ju_callV E [.int (xs (v4 + (1 : Int32)).toNatClampNeg), .int (xs (v4 + (2 : Int32)).toNatClampNeg)] [] (c_X12_would (gL G) (gD G) (gY G) B v2 (xs (v4 + (1 : Int32)).toNatClampNeg) (xs (v4 + (2 : Int32)).toNatClampNeg) Z663 I664 L665 _ hZ hb k670 h) (gwV W_1473 W_1474 W_1475 W_695 W_1472) rfl ⟨rfl, fy_X12_would⟩ ⟨by decide, by decide⟩ (c := 12) rfl (by decide) k670 rfl rfl (Nat.le_of_ble_eq_true rfl) ⟨by show k9 + (jcz Z663 - jcz Z5) + 0 + (B.1 - jcz Z663) ≤ 601024; have := hb.1; have := hc.1; omega, by show n9 + (jsz Z663 - jsz Z5) + 0 + (B.2 - jsz Z663) ≤ 7293034; have := hb.2; have := hc.2; omega⟩ dL_law_1340 (fun v674 Z675 I676 L677 q678 j679 => ?_)
  refine j_kn (k' := k9 + (jcz Z675 - jcz Z5) + 0) (n' := n9 + (jsz Z675 - jsz Z5) + 0) (by have := hc.1; have := j679.1; omega) (by have := hc.2; have := j679.2; omega) ?_
  have hc := jle_trans hc j679
  obtain ⟨yZ675, hZ675, hbZ675, r680, rfl, h⟩ := q678
  have hZ := hZ675
  have hx : jext Z0 Z675 := jext_trans hx yZ675
  have hb := hbZ675
  have k681 := (yZ675 _ _ k669).1
  have k682 := (yZ675 _ _ k670).1
  have k683 := (yZ675 _ _ k671).1
  show jJ G 8 1343 [(0, .ref b), (1, .ref v1), (2, .ref v2), (3, .ref v3), (4, .int v4)] [.int r680] Z675 I676 L677 (k9 + (jcz Z675 - jcz Z5) + 0) (n9 + (jsz Z675 - jsz Z5) + 0)
  refine j_pop E dL_law_1343 rfl ?_
  refine j_goto E 1760 dL_law_1344 (by decide) ?_
  refine j_sub [0, 1, 2, 3, 4] rfl ?_
  refine j_widen (k9 := k9 + (jcz Z675 - jcz Z5) + 27) (n9 := n9 + (jsz Z675 - jsz Z5) + 600) (by show k9 + (jcz Z675 - jcz Z5) + 0 ≤ _; omega) (by show n9 + (jsz Z675 - jsz Z5) + 0 ≤ _; omega) ?_
  exact m_L_law_b1760 E hX hV hU hl0 hb9 hn9 K23 hK23 v1 v2 v3 v4 Z675 I676 L677 hZ hx hc hb k681 k682 k683 h
set_option maxRecDepth 100000 in
def f_L_law_b1347 (xs : Nat → Int32) (Ls : Nat) (B : Nat × Nat) (K23 : Nat → Nat → Nat → Int32 → jZ → jI → jL → Prop) (v1 : Nat) (v2 : Nat) (v3 : Nat) (v4 : Int32) (Z : jZ) (I : jI) (L : jL) : Prop := (vp_in (v4 + (1 : Int32)) Ls ∧ (f_X11_best B v1 (xs (v4 + (1 : Int32)).toNatClampNeg) Z I L (fun r691 Z686 I687 L688 => (vp_in (v4 + (1 : Int32)) Ls ∧ (f_X12_best B v2 (xs (v4 + (1 : Int32)).toNatClampNeg) Z686 I687 L688 (fun r702 Z697 I698 L699 => f_L_law_b1760 xs Ls B K23 v1 v2 v3 v4 Z697 I698 L699))))))
set_option maxHeartbeats 4000000 in
set_option maxRecDepth 100000 in
theorem m_L_law_b1347 {G : jG} {Z0 : jZ} {xs : Nat → Int32} {Ls b k9 n9 sa sb : Nat} {B : Nat × Nat} {Z5 : jZ} (E : jE G cL_law RL (Cond.arrayClass .byte :: jT) 8 (some .boolean) room_1 jRL) (hX : va_X b Ls xs (gS G) (gS G).heap ∧ b < (gS G).heap.size ∧ ¬ gA G b) (hV : jV (gA G) (gS G) (gS G).heap) (hU : jU sa sb (gA G) (gS G) (gS G).heap) (hl0 : (gL G).stackTraces = false) (hb9 : k9 + 27 + (B.1 - jcz Z5) ≤ 601024) (hn9 : n9 + 600 + (B.2 - jsz Z5) ≤ 7293034) (K23 : Nat → Nat → Nat → Int32 → jZ → jI → jL → Prop) (hK23 : ∀ (v1 : Nat) (v2 : Nat) (v3 : Nat) (v4 : Int32) (Z : jZ) (I : jI) (L : jL), SH Z → jext Z0 Z → jle Z5 Z → jin B Z → jk Z v1 11 → jk Z v2 12 → jk Z v3 15 → K23 v1 v2 v3 v4 Z I L → jJ G 8 23 [(0, .ref b), (1, .ref v1), (2, .ref v2), (3, .ref v3), (4, .int v4)] [] Z I L (k9 + (jcz Z - jcz Z5) + 27) (n9 + (jsz Z - jsz Z5) + 600)) (v1 : Nat) (v2 : Nat) (v3 : Nat) (v4 : Int32) (Z : jZ) (I : jI) (L : jL) (hZ : SH Z) (hx : jext Z0 Z) (hc : jle Z5 Z) (hb : jin B Z) (kv1 : jk Z v1 11) (kv2 : jk Z v2 12) (kv3 : jk Z v3 15) (h : f_L_law_b1347 xs Ls B K23 v1 v2 v3 v4 Z I L) : jJ G 8 1347 [(0, .ref b), (1, .ref v1), (2, .ref v2), (3, .ref v3), (4, .int v4)] [] Z I L (k9 + (jcz Z - jcz Z5) + 0) (n9 + (jsz Z - jsz Z5) + 0) := by
  unfold f_L_law_b1347 at h
  refine j_aload_n E dL_law_1347 1 rfl ?_
  refine j_aload_n E dL_law_1348 0 rfl ?_
  refine j_iload E dL_law_1349 4 rfl ?_
  refine j_iconst E (v := 1) dL_law_1351 (by decide) ?_
  refine j_iadd E dL_law_1352 ?_
  obtain ⟨o684, h⟩ := h
  refine j_sld E hX.1 hX.2.1 hX.2.2 o684 dL_law_1353 ?_
  refine ju_callV E [.int (xs (v4 + (1 : Int32)).toNatClampNeg)] [] (c_X11_best (gL G) (gD G) (gY G) B v1 (xs (v4 + (1 : Int32)).toNatClampNeg) Z I L _ hZ hb kv1 h) (gwV W_1477 W_1478 W_1479 W_40 W_1476) rfl ⟨rfl, fy_X11_best⟩ ⟨by decide, by decide⟩ (c := 11) rfl (by decide) kv1 rfl rfl (Nat.le_of_ble_eq_true rfl) ⟨by show k9 + (jcz Z - jcz Z5) + 0 + (B.1 - jcz Z) ≤ 601024; have := hb.1; have := hc.1; omega, by show n9 + (jsz Z - jsz Z5) + 0 + (B.2 - jsz Z) ≤ 7293034; have := hb.2; have := hc.2; omega⟩ dL_law_1354 (fun v685 Z686 I687 L688 q689 j690 => ?_)
  refine j_kn (k' := k9 + (jcz Z686 - jcz Z5) + 0) (n' := n9 + (jsz Z686 - jsz Z5) + 0) (by have := hc.1; have := j690.1; omega) (by have := hc.2; have := j690.2; omega) ?_
  have hc := jle_trans hc j690
  obtain ⟨yZ686, hZ686, hbZ686, r691, rfl, h⟩ := q689
  have hZ := hZ686
  have hx : jext Z0 Z686 := jext_trans hx yZ686
  have hb := hbZ686
  have k692 := (yZ686 _ _ kv1).1
  have k693 := (yZ686 _ _ kv2).1
  have k694 := (yZ686 _ _ kv3).1
  show jJ G 8 1357 [(0, .ref b), (1, .ref v1), (2, .ref v2), (3, .ref v3), (4, .int v4)] [.int r691] Z686 I687 L688 (k9 + (jcz Z686 - jcz Z5) + 0) (n9 + (jsz Z686 - jsz Z5) + 0)
  refine j_pop E dL_law_1357 rfl ?_
  refine j_aload_n E dL_law_1358 2 rfl ?_
  refine j_aload_n E dL_law_1359 0 rfl ?_
  refine j_iload E dL_law_1360 4 rfl ?_
  refine j_iconst E (v := 1) dL_law_1362 (by decide) ?_
  refine j_iadd E dL_law_1363 ?_
  obtain ⟨o695, h⟩ := h
  refine j_sld E hX.1 hX.2.1 hX.2.2 o695 dL_law_1364 ?_
  refine ju_callV E [.int (xs (v4 + (1 : Int32)).toNatClampNeg)] [] (c_X12_best (gL G) (gD G) (gY G) B v2 (xs (v4 + (1 : Int32)).toNatClampNeg) Z686 I687 L688 _ hZ hb k693 h) (gwV W_1481 W_1482 W_1483 W_695 W_1480) rfl ⟨rfl, fy_X12_best⟩ ⟨by decide, by decide⟩ (c := 12) rfl (by decide) k693 rfl rfl (Nat.le_of_ble_eq_true rfl) ⟨by show k9 + (jcz Z686 - jcz Z5) + 0 + (B.1 - jcz Z686) ≤ 601024; have := hb.1; have := hc.1; omega, by show n9 + (jsz Z686 - jsz Z5) + 0 + (B.2 - jsz Z686) ≤ 7293034; have := hb.2; have := hc.2; omega⟩ dL_law_1365 (fun v696 Z697 I698 L699 q700 j701 => ?_)
  refine j_kn (k' := k9 + (jcz Z697 - jcz Z5) + 0) (n' := n9 + (jsz Z697 - jsz Z5) + 0) (by have := hc.1; have := j701.1; omega) (by have := hc.2; have := j701.2; omega) ?_
  have hc := jle_trans hc j701
  obtain ⟨yZ697, hZ697, hbZ697, r702, rfl, h⟩ := q700
  have hZ := hZ697
  have hx : jext Z0 Z697 := jext_trans hx yZ697
  have hb := hbZ697
  have k703 := (yZ697 _ _ k692).1
  have k704 := (yZ697 _ _ k693).1
  have k705 := (yZ697 _ _ k694).1
  show jJ G 8 1368 [(0, .ref b), (1, .ref v1), (2, .ref v2), (3, .ref v3), (4, .int v4)] [.int r702] Z697 I698 L699 (k9 + (jcz Z697 - jcz Z5) + 0) (n9 + (jsz Z697 - jsz Z5) + 0)
  refine j_pop E dL_law_1368 rfl ?_
  refine j_goto E 1760 dL_law_1369 (by decide) ?_
  refine j_sub [0, 1, 2, 3, 4] rfl ?_
  refine j_widen (k9 := k9 + (jcz Z697 - jcz Z5) + 27) (n9 := n9 + (jsz Z697 - jsz Z5) + 600) (by show k9 + (jcz Z697 - jcz Z5) + 0 ≤ _; omega) (by show n9 + (jsz Z697 - jsz Z5) + 0 ≤ _; omega) ?_
  exact m_L_law_b1760 E hX hV hU hl0 hb9 hn9 K23 hK23 v1 v2 v3 v4 Z697 I698 L699 hZ hx hc hb k703 k704 k705 h
set_option maxRecDepth 100000 in
def f_L_law_b1372 (xs : Nat → Int32) (Ls : Nat) (B : Nat × Nat) (K23 : Nat → Nat → Nat → Int32 → jZ → jI → jL → Prop) (v1 : Nat) (v2 : Nat) (v3 : Nat) (v4 : Int32) (Z : jZ) (I : jI) (L : jL) : Prop := (vp_in (v4 + (1 : Int32)) Ls ∧ (f_X11_market B v1 (xs (v4 + (1 : Int32)).toNatClampNeg) Z I L (fun r713 Z708 I709 L710 => (vp_in (v4 + (1 : Int32)) Ls ∧ (f_X12_market B v2 (xs (v4 + (1 : Int32)).toNatClampNeg) Z708 I709 L710 (fun r724 Z719 I720 L721 => f_L_law_b1760 xs Ls B K23 v1 v2 v3 v4 Z719 I720 L721))))))
set_option maxHeartbeats 4000000 in
set_option maxRecDepth 100000 in
theorem m_L_law_b1372 {G : jG} {Z0 : jZ} {xs : Nat → Int32} {Ls b k9 n9 sa sb : Nat} {B : Nat × Nat} {Z5 : jZ} (E : jE G cL_law RL (Cond.arrayClass .byte :: jT) 8 (some .boolean) room_1 jRL) (hX : va_X b Ls xs (gS G) (gS G).heap ∧ b < (gS G).heap.size ∧ ¬ gA G b) (hV : jV (gA G) (gS G) (gS G).heap) (hU : jU sa sb (gA G) (gS G) (gS G).heap) (hl0 : (gL G).stackTraces = false) (hb9 : k9 + 27 + (B.1 - jcz Z5) ≤ 601024) (hn9 : n9 + 600 + (B.2 - jsz Z5) ≤ 7293034) (K23 : Nat → Nat → Nat → Int32 → jZ → jI → jL → Prop) (hK23 : ∀ (v1 : Nat) (v2 : Nat) (v3 : Nat) (v4 : Int32) (Z : jZ) (I : jI) (L : jL), SH Z → jext Z0 Z → jle Z5 Z → jin B Z → jk Z v1 11 → jk Z v2 12 → jk Z v3 15 → K23 v1 v2 v3 v4 Z I L → jJ G 8 23 [(0, .ref b), (1, .ref v1), (2, .ref v2), (3, .ref v3), (4, .int v4)] [] Z I L (k9 + (jcz Z - jcz Z5) + 27) (n9 + (jsz Z - jsz Z5) + 600)) (v1 : Nat) (v2 : Nat) (v3 : Nat) (v4 : Int32) (Z : jZ) (I : jI) (L : jL) (hZ : SH Z) (hx : jext Z0 Z) (hc : jle Z5 Z) (hb : jin B Z) (kv1 : jk Z v1 11) (kv2 : jk Z v2 12) (kv3 : jk Z v3 15) (h : f_L_law_b1372 xs Ls B K23 v1 v2 v3 v4 Z I L) : jJ G 8 1372 [(0, .ref b), (1, .ref v1), (2, .ref v2), (3, .ref v3), (4, .int v4)] [] Z I L (k9 + (jcz Z - jcz Z5) + 0) (n9 + (jsz Z - jsz Z5) + 0) := by
  unfold f_L_law_b1372 at h
  refine j_aload_n E dL_law_1372 1 rfl ?_
  refine j_aload_n E dL_law_1373 0 rfl ?_
  refine j_iload E dL_law_1374 4 rfl ?_
  refine j_iconst E (v := 1) dL_law_1376 (by decide) ?_
  refine j_iadd E dL_law_1377 ?_
  obtain ⟨o706, h⟩ := h
  refine j_sld E hX.1 hX.2.1 hX.2.2 o706 dL_law_1378 ?_
  refine ju_callV E [.int (xs (v4 + (1 : Int32)).toNatClampNeg)] [] (c_X11_market (gL G) (gD G) (gY G) B v1 (xs (v4 + (1 : Int32)).toNatClampNeg) Z I L _ hZ hb kv1 h) (gwV W_1485 W_1486 W_1487 W_40 W_1484) rfl ⟨rfl, fy_X11_market⟩ ⟨by decide, by decide⟩ (c := 11) rfl (by decide) kv1 rfl rfl (Nat.le_of_ble_eq_true rfl) ⟨by show k9 + (jcz Z - jcz Z5) + 0 + (B.1 - jcz Z) ≤ 601024; have := hb.1; have := hc.1; omega, by show n9 + (jsz Z - jsz Z5) + 0 + (B.2 - jsz Z) ≤ 7293034; have := hb.2; have := hc.2; omega⟩ dL_law_1379 (fun v707 Z708 I709 L710 q711 j712 => ?_)
  refine j_kn (k' := k9 + (jcz Z708 - jcz Z5) + 0) (n' := n9 + (jsz Z708 - jsz Z5) + 0) (by have := hc.1; have := j712.1; omega) (by have := hc.2; have := j712.2; omega) ?_
  have hc := jle_trans hc j712
  obtain ⟨yZ708, hZ708, hbZ708, r713, rfl, h⟩ := q711
  have hZ := hZ708
  have hx : jext Z0 Z708 := jext_trans hx yZ708
  have hb := hbZ708
  have k714 := (yZ708 _ _ kv1).1
  have k715 := (yZ708 _ _ kv2).1
  have k716 := (yZ708 _ _ kv3).1
  show jJ G 8 1382 [(0, .ref b), (1, .ref v1), (2, .ref v2), (3, .ref v3), (4, .int v4)] [.int r713] Z708 I709 L710 (k9 + (jcz Z708 - jcz Z5) + 0) (n9 + (jsz Z708 - jsz Z5) + 0)
  refine j_pop E dL_law_1382 rfl ?_
  refine j_aload_n E dL_law_1383 2 rfl ?_
  refine j_aload_n E dL_law_1384 0 rfl ?_
  refine j_iload E dL_law_1385 4 rfl ?_
  refine j_iconst E (v := 1) dL_law_1387 (by decide) ?_
  refine j_iadd E dL_law_1388 ?_
  obtain ⟨o717, h⟩ := h
  refine j_sld E hX.1 hX.2.1 hX.2.2 o717 dL_law_1389 ?_
  refine ju_callV E [.int (xs (v4 + (1 : Int32)).toNatClampNeg)] [] (c_X12_market (gL G) (gD G) (gY G) B v2 (xs (v4 + (1 : Int32)).toNatClampNeg) Z708 I709 L710 _ hZ hb k715 h) (gwV W_1489 W_1490 W_1491 W_695 W_1488) rfl ⟨rfl, fy_X12_market⟩ ⟨by decide, by decide⟩ (c := 12) rfl (by decide) k715 rfl rfl (Nat.le_of_ble_eq_true rfl) ⟨by show k9 + (jcz Z708 - jcz Z5) + 0 + (B.1 - jcz Z708) ≤ 601024; have := hb.1; have := hc.1; omega, by show n9 + (jsz Z708 - jsz Z5) + 0 + (B.2 - jsz Z708) ≤ 7293034; have := hb.2; have := hc.2; omega⟩ dL_law_1390 (fun v718 Z719 I720 L721 q722 j723 => ?_)
  refine j_kn (k' := k9 + (jcz Z719 - jcz Z5) + 0) (n' := n9 + (jsz Z719 - jsz Z5) + 0) (by have := hc.1; have := j723.1; omega) (by have := hc.2; have := j723.2; omega) ?_
  have hc := jle_trans hc j723
  obtain ⟨yZ719, hZ719, hbZ719, r724, rfl, h⟩ := q722
  have hZ := hZ719
  have hx : jext Z0 Z719 := jext_trans hx yZ719
  have hb := hbZ719
  have k725 := (yZ719 _ _ k714).1
  have k726 := (yZ719 _ _ k715).1
  have k727 := (yZ719 _ _ k716).1
  show jJ G 8 1393 [(0, .ref b), (1, .ref v1), (2, .ref v2), (3, .ref v3), (4, .int v4)] [.int r724] Z719 I720 L721 (k9 + (jcz Z719 - jcz Z5) + 0) (n9 + (jsz Z719 - jsz Z5) + 0)
  refine j_pop E dL_law_1393 rfl ?_
  refine j_goto E 1760 dL_law_1394 (by decide) ?_
  refine j_sub [0, 1, 2, 3, 4] rfl ?_
  refine j_widen (k9 := k9 + (jcz Z719 - jcz Z5) + 27) (n9 := n9 + (jsz Z719 - jsz Z5) + 600) (by show k9 + (jcz Z719 - jcz Z5) + 0 ≤ _; omega) (by show n9 + (jsz Z719 - jsz Z5) + 0 ≤ _; omega) ?_
  exact m_L_law_b1760 E hX hV hU hl0 hb9 hn9 K23 hK23 v1 v2 v3 v4 Z719 I720 L721 hZ hx hc hb k725 k726 k727 h
set_option maxRecDepth 100000 in
def f_L_law_b1397 (xs : Nat → Int32) (Ls : Nat) (B : Nat × Nat) (K23 : Nat → Nat → Nat → Int32 → jZ → jI → jL → Prop) (v1 : Nat) (v2 : Nat) (v3 : Nat) (v4 : Int32) (Z : jZ) (I : jI) (L : jL) : Prop := (vp_in (v4 + (1 : Int32)) Ls ∧ (vp_in (v4 + (2 : Int32)) Ls ∧ (f_X11_parts v1 (xs (v4 + (1 : Int32)).toNatClampNeg) (xs (v4 + (2 : Int32)).toNatClampNeg) Z I L (fun r736 I732 L733 => (vp_in (v4 + (1 : Int32)) Ls ∧ (vp_in (v4 + (2 : Int32)) Ls ∧ (f_X12_parts v2 (xs (v4 + (1 : Int32)).toNatClampNeg) (xs (v4 + (2 : Int32)).toNatClampNeg) Z I732 L733 (fun r745 I741 L742 => f_L_law_b1760 xs Ls B K23 v1 v2 v3 v4 Z I741 L742))))))))
set_option maxHeartbeats 4000000 in
set_option maxRecDepth 100000 in
theorem m_L_law_b1397 {G : jG} {Z0 : jZ} {xs : Nat → Int32} {Ls b k9 n9 sa sb : Nat} {B : Nat × Nat} {Z5 : jZ} (E : jE G cL_law RL (Cond.arrayClass .byte :: jT) 8 (some .boolean) room_1 jRL) (hX : va_X b Ls xs (gS G) (gS G).heap ∧ b < (gS G).heap.size ∧ ¬ gA G b) (hV : jV (gA G) (gS G) (gS G).heap) (hU : jU sa sb (gA G) (gS G) (gS G).heap) (hl0 : (gL G).stackTraces = false) (hb9 : k9 + 27 + (B.1 - jcz Z5) ≤ 601024) (hn9 : n9 + 600 + (B.2 - jsz Z5) ≤ 7293034) (K23 : Nat → Nat → Nat → Int32 → jZ → jI → jL → Prop) (hK23 : ∀ (v1 : Nat) (v2 : Nat) (v3 : Nat) (v4 : Int32) (Z : jZ) (I : jI) (L : jL), SH Z → jext Z0 Z → jle Z5 Z → jin B Z → jk Z v1 11 → jk Z v2 12 → jk Z v3 15 → K23 v1 v2 v3 v4 Z I L → jJ G 8 23 [(0, .ref b), (1, .ref v1), (2, .ref v2), (3, .ref v3), (4, .int v4)] [] Z I L (k9 + (jcz Z - jcz Z5) + 27) (n9 + (jsz Z - jsz Z5) + 600)) (v1 : Nat) (v2 : Nat) (v3 : Nat) (v4 : Int32) (Z : jZ) (I : jI) (L : jL) (hZ : SH Z) (hx : jext Z0 Z) (hc : jle Z5 Z) (hb : jin B Z) (kv1 : jk Z v1 11) (kv2 : jk Z v2 12) (kv3 : jk Z v3 15) (h : f_L_law_b1397 xs Ls B K23 v1 v2 v3 v4 Z I L) : jJ G 8 1397 [(0, .ref b), (1, .ref v1), (2, .ref v2), (3, .ref v3), (4, .int v4)] [] Z I L (k9 + (jcz Z - jcz Z5) + 0) (n9 + (jsz Z - jsz Z5) + 0) := by
  unfold f_L_law_b1397 at h
  refine j_aload_n E dL_law_1397 1 rfl ?_
  refine j_aload_n E dL_law_1398 0 rfl ?_
  refine j_iload E dL_law_1399 4 rfl ?_
  refine j_iconst E (v := 1) dL_law_1401 (by decide) ?_
  refine j_iadd E dL_law_1402 ?_
  obtain ⟨o728, h⟩ := h
  refine j_sld E hX.1 hX.2.1 hX.2.2 o728 dL_law_1403 ?_
  refine j_aload_n E dL_law_1404 0 rfl ?_
  refine j_iload E dL_law_1405 4 rfl ?_
  refine j_iconst E (v := 2) dL_law_1407 (by decide) ?_
  refine j_iadd E dL_law_1408 ?_
  obtain ⟨o729, h⟩ := h
  refine j_sld E hX.1 hX.2.1 hX.2.2 o729 dL_law_1409 ?_
  refine j_callV E [.int (xs (v4 + (1 : Int32)).toNatClampNeg), .int (xs (v4 + (2 : Int32)).toNatClampNeg)] [] (c_X11_parts (gL G) (gD G) (gY G) v1 (xs (v4 + (1 : Int32)).toNatClampNeg) (xs (v4 + (2 : Int32)).toNatClampNeg) Z I L _ hZ kv1 h) (gwV W_1493 W_1494 W_1495 W_40 W_1492) rfl ⟨rfl, fy_X11_parts⟩ ⟨by decide, by decide⟩ (c := 11) rfl (by decide) kv1 rfl rfl (Nat.le_of_ble_eq_true rfl) ⟨by show k9 + (jcz Z - jcz Z5) + 0 + 0 ≤ 601024; have := hb.1; omega, by show n9 + (jsz Z - jsz Z5) + 0 + 0 ≤ 7293034; have := hb.2; omega⟩ dL_law_1410 (fun v730 Z731 I732 L733 q734 => ?_)
  obtain ⟨rfl, r736, rfl, h⟩ := q734
  show jJ G 8 1413 [(0, .ref b), (1, .ref v1), (2, .ref v2), (3, .ref v3), (4, .int v4)] [.int r736] Z I732 L733 (k9 + (jcz Z - jcz Z5) + 0) (n9 + (jsz Z - jsz Z5) + 0)
  refine j_pop E dL_law_1413 rfl ?_
  refine j_aload_n E dL_law_1414 2 rfl ?_
  refine j_aload_n E dL_law_1415 0 rfl ?_
  refine j_iload E dL_law_1416 4 rfl ?_
  refine j_iconst E (v := 1) dL_law_1418 (by decide) ?_
  refine j_iadd E dL_law_1419 ?_
  obtain ⟨o737, h⟩ := h
  refine j_sld E hX.1 hX.2.1 hX.2.2 o737 dL_law_1420 ?_
  refine j_aload_n E dL_law_1421 0 rfl ?_
  refine j_iload E dL_law_1422 4 rfl ?_
  refine j_iconst E (v := 2) dL_law_1424 (by decide) ?_
  refine j_iadd E dL_law_1425 ?_
  obtain ⟨o738, h⟩ := h
  refine j_sld E hX.1 hX.2.1 hX.2.2 o738 dL_law_1426 ?_
  refine j_callV E [.int (xs (v4 + (1 : Int32)).toNatClampNeg), .int (xs (v4 + (2 : Int32)).toNatClampNeg)] [] (c_X12_parts (gL G) (gD G) (gY G) v2 (xs (v4 + (1 : Int32)).toNatClampNeg) (xs (v4 + (2 : Int32)).toNatClampNeg) Z I732 L733 _ hZ kv2 h) (gwV W_1497 W_1498 W_1499 W_695 W_1496) rfl ⟨rfl, fy_X12_parts⟩ ⟨by decide, by decide⟩ (c := 12) rfl (by decide) kv2 rfl rfl (Nat.le_of_ble_eq_true rfl) ⟨by show k9 + (jcz Z - jcz Z5) + 0 + 0 ≤ 601024; have := hb.1; omega, by show n9 + (jsz Z - jsz Z5) + 0 + 0 ≤ 7293034; have := hb.2; omega⟩ dL_law_1427 (fun v739 Z740 I741 L742 q743 => ?_)
  obtain ⟨rfl, r745, rfl, h⟩ := q743
  show jJ G 8 1430 [(0, .ref b), (1, .ref v1), (2, .ref v2), (3, .ref v3), (4, .int v4)] [.int r745] Z I741 L742 (k9 + (jcz Z - jcz Z5) + 0) (n9 + (jsz Z - jsz Z5) + 0)
  refine j_pop E dL_law_1430 rfl ?_
  refine j_goto E 1760 dL_law_1431 (by decide) ?_
  refine j_sub [0, 1, 2, 3, 4] rfl ?_
  refine j_widen (k9 := k9 + (jcz Z - jcz Z5) + 27) (n9 := n9 + (jsz Z - jsz Z5) + 600) (by show k9 + (jcz Z - jcz Z5) + 0 ≤ _; omega) (by show n9 + (jsz Z - jsz Z5) + 0 ≤ _; omega) ?_
  exact m_L_law_b1760 E hX hV hU hl0 hb9 hn9 K23 hK23 v1 v2 v3 v4 Z I741 L742 hZ hx hc hb kv1 kv2 kv3 h
set_option maxRecDepth 100000 in
def f_L_law_b1434 (xs : Nat → Int32) (Ls : Nat) (B : Nat × Nat) (K23 : Nat → Nat → Nat → Int32 → jZ → jI → jL → Prop) (v1 : Nat) (v2 : Nat) (v3 : Nat) (v4 : Int32) (Z : jZ) (I : jI) (L : jL) : Prop := (vp_in (v4 + (1 : Int32)) Ls ∧ (vp_in (v4 + (2 : Int32)) Ls ∧ (vp_in (v4 + (3 : Int32)) Ls ∧ (vp_in (v4 + (4 : Int32)) Ls ∧ (vp_in (v4 + (5 : Int32)) Ls ∧ (f_X11_sells v1 (xs (v4 + (1 : Int32)).toNatClampNeg) (xs (v4 + (2 : Int32)).toNatClampNeg) (xs (v4 + (3 : Int32)).toNatClampNeg) (xs (v4 + (4 : Int32)).toNatClampNeg) (xs (v4 + (5 : Int32)).toNatClampNeg) Z I L (fun r757 I753 L754 => (vp_in (v4 + (1 : Int32)) Ls ∧ (vp_in (v4 + (2 : Int32)) Ls ∧ (vp_in (v4 + (3 : Int32)) Ls ∧ (vp_in (v4 + (4 : Int32)) Ls ∧ (vp_in (v4 + (5 : Int32)) Ls ∧ (f_X12_sells v2 (xs (v4 + (1 : Int32)).toNatClampNeg) (xs (v4 + (2 : Int32)).toNatClampNeg) (xs (v4 + (3 : Int32)).toNatClampNeg) (xs (v4 + (4 : Int32)).toNatClampNeg) (xs (v4 + (5 : Int32)).toNatClampNeg) Z I753 L754 (fun r769 I765 L766 => f_L_law_b1760 xs Ls B K23 v1 v2 v3 v4 Z I765 L766))))))))))))))
set_option maxHeartbeats 4000000 in
set_option maxRecDepth 100000 in
theorem m_L_law_b1434 {G : jG} {Z0 : jZ} {xs : Nat → Int32} {Ls b k9 n9 sa sb : Nat} {B : Nat × Nat} {Z5 : jZ} (E : jE G cL_law RL (Cond.arrayClass .byte :: jT) 8 (some .boolean) room_1 jRL) (hX : va_X b Ls xs (gS G) (gS G).heap ∧ b < (gS G).heap.size ∧ ¬ gA G b) (hV : jV (gA G) (gS G) (gS G).heap) (hU : jU sa sb (gA G) (gS G) (gS G).heap) (hl0 : (gL G).stackTraces = false) (hb9 : k9 + 27 + (B.1 - jcz Z5) ≤ 601024) (hn9 : n9 + 600 + (B.2 - jsz Z5) ≤ 7293034) (K23 : Nat → Nat → Nat → Int32 → jZ → jI → jL → Prop) (hK23 : ∀ (v1 : Nat) (v2 : Nat) (v3 : Nat) (v4 : Int32) (Z : jZ) (I : jI) (L : jL), SH Z → jext Z0 Z → jle Z5 Z → jin B Z → jk Z v1 11 → jk Z v2 12 → jk Z v3 15 → K23 v1 v2 v3 v4 Z I L → jJ G 8 23 [(0, .ref b), (1, .ref v1), (2, .ref v2), (3, .ref v3), (4, .int v4)] [] Z I L (k9 + (jcz Z - jcz Z5) + 27) (n9 + (jsz Z - jsz Z5) + 600)) (v1 : Nat) (v2 : Nat) (v3 : Nat) (v4 : Int32) (Z : jZ) (I : jI) (L : jL) (hZ : SH Z) (hx : jext Z0 Z) (hc : jle Z5 Z) (hb : jin B Z) (kv1 : jk Z v1 11) (kv2 : jk Z v2 12) (kv3 : jk Z v3 15) (h : f_L_law_b1434 xs Ls B K23 v1 v2 v3 v4 Z I L) : jJ G 8 1434 [(0, .ref b), (1, .ref v1), (2, .ref v2), (3, .ref v3), (4, .int v4)] [] Z I L (k9 + (jcz Z - jcz Z5) + 0) (n9 + (jsz Z - jsz Z5) + 0) := by
  unfold f_L_law_b1434 at h
  refine j_aload_n E dL_law_1434 1 rfl ?_
  refine j_aload_n E dL_law_1435 0 rfl ?_
  refine j_iload E dL_law_1436 4 rfl ?_
  refine j_iconst E (v := 1) dL_law_1438 (by decide) ?_
  refine j_iadd E dL_law_1439 ?_
  obtain ⟨o746, h⟩ := h
  refine j_sld E hX.1 hX.2.1 hX.2.2 o746 dL_law_1440 ?_
  refine j_aload_n E dL_law_1441 0 rfl ?_
  refine j_iload E dL_law_1442 4 rfl ?_
  refine j_iconst E (v := 2) dL_law_1444 (by decide) ?_
  refine j_iadd E dL_law_1445 ?_
  obtain ⟨o747, h⟩ := h
  refine j_sld E hX.1 hX.2.1 hX.2.2 o747 dL_law_1446 ?_
  refine j_aload_n E dL_law_1447 0 rfl ?_
  refine j_iload E dL_law_1448 4 rfl ?_
  refine j_iconst E (v := 3) dL_law_1450 (by decide) ?_
  refine j_iadd E dL_law_1451 ?_
  obtain ⟨o748, h⟩ := h
  refine j_sld E hX.1 hX.2.1 hX.2.2 o748 dL_law_1452 ?_
  refine j_aload_n E dL_law_1453 0 rfl ?_
  refine j_iload E dL_law_1454 4 rfl ?_
  refine j_iconst E (v := 4) dL_law_1456 (by decide) ?_
  refine j_iadd E dL_law_1457 ?_
  obtain ⟨o749, h⟩ := h
  refine j_sld E hX.1 hX.2.1 hX.2.2 o749 dL_law_1458 ?_
  refine j_aload_n E dL_law_1459 0 rfl ?_
  refine j_iload E dL_law_1460 4 rfl ?_
  refine j_iconst E (v := 5) dL_law_1462 (by decide) ?_
  refine j_iadd E dL_law_1463 ?_
  obtain ⟨o750, h⟩ := h
  refine j_sld E hX.1 hX.2.1 hX.2.2 o750 dL_law_1464 ?_
  refine j_callV E [.int (xs (v4 + (1 : Int32)).toNatClampNeg), .int (xs (v4 + (2 : Int32)).toNatClampNeg), .int (xs (v4 + (3 : Int32)).toNatClampNeg), .int (xs (v4 + (4 : Int32)).toNatClampNeg), .int (xs (v4 + (5 : Int32)).toNatClampNeg)] [] (c_X11_sells (gL G) (gD G) (gY G) v1 (xs (v4 + (1 : Int32)).toNatClampNeg) (xs (v4 + (2 : Int32)).toNatClampNeg) (xs (v4 + (3 : Int32)).toNatClampNeg) (xs (v4 + (4 : Int32)).toNatClampNeg) (xs (v4 + (5 : Int32)).toNatClampNeg) Z I L _ hZ kv1 h) (gwV W_1501 W_1502 W_1503 W_40 W_1500) rfl ⟨rfl, fy_X11_sells⟩ ⟨by decide, by decide⟩ (c := 11) rfl (by decide) kv1 rfl rfl (Nat.le_of_ble_eq_true rfl) ⟨by show k9 + (jcz Z - jcz Z5) + 0 + 0 ≤ 601024; have := hb.1; omega, by show n9 + (jsz Z - jsz Z5) + 0 + 0 ≤ 7293034; have := hb.2; omega⟩ dL_law_1465 (fun v751 Z752 I753 L754 q755 => ?_)
  obtain ⟨rfl, r757, rfl, h⟩ := q755
  show jJ G 8 1468 [(0, .ref b), (1, .ref v1), (2, .ref v2), (3, .ref v3), (4, .int v4)] [.int r757] Z I753 L754 (k9 + (jcz Z - jcz Z5) + 0) (n9 + (jsz Z - jsz Z5) + 0)
  refine j_pop E dL_law_1468 rfl ?_
  refine j_aload_n E dL_law_1469 2 rfl ?_
  refine j_aload_n E dL_law_1470 0 rfl ?_
  refine j_iload E dL_law_1471 4 rfl ?_
  refine j_iconst E (v := 1) dL_law_1473 (by decide) ?_
  refine j_iadd E dL_law_1474 ?_
  obtain ⟨o758, h⟩ := h
  refine j_sld E hX.1 hX.2.1 hX.2.2 o758 dL_law_1475 ?_
  refine j_aload_n E dL_law_1476 0 rfl ?_
  refine j_iload E dL_law_1477 4 rfl ?_
  refine j_iconst E (v := 2) dL_law_1479 (by decide) ?_
  refine j_iadd E dL_law_1480 ?_
  obtain ⟨o759, h⟩ := h
  refine j_sld E hX.1 hX.2.1 hX.2.2 o759 dL_law_1481 ?_
  refine j_aload_n E dL_law_1482 0 rfl ?_
  refine j_iload E dL_law_1483 4 rfl ?_
  refine j_iconst E (v := 3) dL_law_1485 (by decide) ?_
  refine j_iadd E dL_law_1486 ?_
  obtain ⟨o760, h⟩ := h
  refine j_sld E hX.1 hX.2.1 hX.2.2 o760 dL_law_1487 ?_
  refine j_aload_n E dL_law_1488 0 rfl ?_
  refine j_iload E dL_law_1489 4 rfl ?_
  refine j_iconst E (v := 4) dL_law_1491 (by decide) ?_
  refine j_iadd E dL_law_1492 ?_
  obtain ⟨o761, h⟩ := h
  refine j_sld E hX.1 hX.2.1 hX.2.2 o761 dL_law_1493 ?_
  refine j_aload_n E dL_law_1494 0 rfl ?_
  refine j_iload E dL_law_1495 4 rfl ?_
  refine j_iconst E (v := 5) dL_law_1497 (by decide) ?_
  refine j_iadd E dL_law_1498 ?_
  obtain ⟨o762, h⟩ := h
  refine j_sld E hX.1 hX.2.1 hX.2.2 o762 dL_law_1499 ?_
  refine j_callV E [.int (xs (v4 + (1 : Int32)).toNatClampNeg), .int (xs (v4 + (2 : Int32)).toNatClampNeg), .int (xs (v4 + (3 : Int32)).toNatClampNeg), .int (xs (v4 + (4 : Int32)).toNatClampNeg), .int (xs (v4 + (5 : Int32)).toNatClampNeg)] [] (c_X12_sells (gL G) (gD G) (gY G) v2 (xs (v4 + (1 : Int32)).toNatClampNeg) (xs (v4 + (2 : Int32)).toNatClampNeg) (xs (v4 + (3 : Int32)).toNatClampNeg) (xs (v4 + (4 : Int32)).toNatClampNeg) (xs (v4 + (5 : Int32)).toNatClampNeg) Z I753 L754 _ hZ kv2 h) (gwV W_1505 W_1506 W_1507 W_695 W_1504) rfl ⟨rfl, fy_X12_sells⟩ ⟨by decide, by decide⟩ (c := 12) rfl (by decide) kv2 rfl rfl (Nat.le_of_ble_eq_true rfl) ⟨by show k9 + (jcz Z - jcz Z5) + 0 + 0 ≤ 601024; have := hb.1; omega, by show n9 + (jsz Z - jsz Z5) + 0 + 0 ≤ 7293034; have := hb.2; omega⟩ dL_law_1500 (fun v763 Z764 I765 L766 q767 => ?_)
  obtain ⟨rfl, r769, rfl, h⟩ := q767
  show jJ G 8 1503 [(0, .ref b), (1, .ref v1), (2, .ref v2), (3, .ref v3), (4, .int v4)] [.int r769] Z I765 L766 (k9 + (jcz Z - jcz Z5) + 0) (n9 + (jsz Z - jsz Z5) + 0)
  refine j_pop E dL_law_1503 rfl ?_
  refine j_goto E 1760 dL_law_1504 (by decide) ?_
  refine j_sub [0, 1, 2, 3, 4] rfl ?_
  refine j_widen (k9 := k9 + (jcz Z - jcz Z5) + 27) (n9 := n9 + (jsz Z - jsz Z5) + 600) (by show k9 + (jcz Z - jcz Z5) + 0 ≤ _; omega) (by show n9 + (jsz Z - jsz Z5) + 0 ≤ _; omega) ?_
  exact m_L_law_b1760 E hX hV hU hl0 hb9 hn9 K23 hK23 v1 v2 v3 v4 Z I765 L766 hZ hx hc hb kv1 kv2 kv3 h
set_option maxRecDepth 100000 in
def f_L_law_b1507 (xs : Nat → Int32) (Ls : Nat) (B : Nat × Nat) (K23 : Nat → Nat → Nat → Int32 → jZ → jI → jL → Prop) (v1 : Nat) (v2 : Nat) (v3 : Nat) (v4 : Int32) (Z : jZ) (I : jI) (L : jL) : Prop := (vp_in (v4 + (1 : Int32)) Ls ∧ (vp_in (v4 + (2 : Int32)) Ls ∧ (f_X11_dies v1 (xs (v4 + (1 : Int32)).toNatClampNeg) (xs (v4 + (2 : Int32)).toNatClampNeg) Z I L (fun r778 I774 L775 => (vp_in (v4 + (1 : Int32)) Ls ∧ (vp_in (v4 + (2 : Int32)) Ls ∧ (f_X12_dies v2 (xs (v4 + (1 : Int32)).toNatClampNeg) (xs (v4 + (2 : Int32)).toNatClampNeg) Z I774 L775 (fun r787 I783 L784 => f_L_law_b1760 xs Ls B K23 v1 v2 v3 v4 Z I783 L784))))))))
set_option maxHeartbeats 4000000 in
set_option maxRecDepth 100000 in
theorem m_L_law_b1507 {G : jG} {Z0 : jZ} {xs : Nat → Int32} {Ls b k9 n9 sa sb : Nat} {B : Nat × Nat} {Z5 : jZ} (E : jE G cL_law RL (Cond.arrayClass .byte :: jT) 8 (some .boolean) room_1 jRL) (hX : va_X b Ls xs (gS G) (gS G).heap ∧ b < (gS G).heap.size ∧ ¬ gA G b) (hV : jV (gA G) (gS G) (gS G).heap) (hU : jU sa sb (gA G) (gS G) (gS G).heap) (hl0 : (gL G).stackTraces = false) (hb9 : k9 + 27 + (B.1 - jcz Z5) ≤ 601024) (hn9 : n9 + 600 + (B.2 - jsz Z5) ≤ 7293034) (K23 : Nat → Nat → Nat → Int32 → jZ → jI → jL → Prop) (hK23 : ∀ (v1 : Nat) (v2 : Nat) (v3 : Nat) (v4 : Int32) (Z : jZ) (I : jI) (L : jL), SH Z → jext Z0 Z → jle Z5 Z → jin B Z → jk Z v1 11 → jk Z v2 12 → jk Z v3 15 → K23 v1 v2 v3 v4 Z I L → jJ G 8 23 [(0, .ref b), (1, .ref v1), (2, .ref v2), (3, .ref v3), (4, .int v4)] [] Z I L (k9 + (jcz Z - jcz Z5) + 27) (n9 + (jsz Z - jsz Z5) + 600)) (v1 : Nat) (v2 : Nat) (v3 : Nat) (v4 : Int32) (Z : jZ) (I : jI) (L : jL) (hZ : SH Z) (hx : jext Z0 Z) (hc : jle Z5 Z) (hb : jin B Z) (kv1 : jk Z v1 11) (kv2 : jk Z v2 12) (kv3 : jk Z v3 15) (h : f_L_law_b1507 xs Ls B K23 v1 v2 v3 v4 Z I L) : jJ G 8 1507 [(0, .ref b), (1, .ref v1), (2, .ref v2), (3, .ref v3), (4, .int v4)] [] Z I L (k9 + (jcz Z - jcz Z5) + 0) (n9 + (jsz Z - jsz Z5) + 0) := by
  unfold f_L_law_b1507 at h
  refine j_aload_n E dL_law_1507 1 rfl ?_
  refine j_aload_n E dL_law_1508 0 rfl ?_
  refine j_iload E dL_law_1509 4 rfl ?_
  refine j_iconst E (v := 1) dL_law_1511 (by decide) ?_
  refine j_iadd E dL_law_1512 ?_
  obtain ⟨o770, h⟩ := h
  refine j_sld E hX.1 hX.2.1 hX.2.2 o770 dL_law_1513 ?_
  refine j_aload_n E dL_law_1514 0 rfl ?_
  refine j_iload E dL_law_1515 4 rfl ?_
  refine j_iconst E (v := 2) dL_law_1517 (by decide) ?_
  refine j_iadd E dL_law_1518 ?_
  obtain ⟨o771, h⟩ := h
  refine j_sld E hX.1 hX.2.1 hX.2.2 o771 dL_law_1519 ?_
  refine j_callV E [.int (xs (v4 + (1 : Int32)).toNatClampNeg), .int (xs (v4 + (2 : Int32)).toNatClampNeg)] [] (c_X11_dies (gL G) (gD G) (gY G) v1 (xs (v4 + (1 : Int32)).toNatClampNeg) (xs (v4 + (2 : Int32)).toNatClampNeg) Z I L _ hZ kv1 h) (gwV W_1509 W_1510 W_1511 W_40 W_1508) rfl ⟨rfl, fy_X11_dies⟩ ⟨by decide, by decide⟩ (c := 11) rfl (by decide) kv1 rfl rfl (Nat.le_of_ble_eq_true rfl) ⟨by show k9 + (jcz Z - jcz Z5) + 0 + 0 ≤ 601024; have := hb.1; omega, by show n9 + (jsz Z - jsz Z5) + 0 + 0 ≤ 7293034; have := hb.2; omega⟩ dL_law_1520 (fun v772 Z773 I774 L775 q776 => ?_)
  obtain ⟨rfl, r778, rfl, h⟩ := q776
  show jJ G 8 1523 [(0, .ref b), (1, .ref v1), (2, .ref v2), (3, .ref v3), (4, .int v4)] [.int r778] Z I774 L775 (k9 + (jcz Z - jcz Z5) + 0) (n9 + (jsz Z - jsz Z5) + 0)
  refine j_pop E dL_law_1523 rfl ?_
  refine j_aload_n E dL_law_1524 2 rfl ?_
  refine j_aload_n E dL_law_1525 0 rfl ?_
  refine j_iload E dL_law_1526 4 rfl ?_
  refine j_iconst E (v := 1) dL_law_1528 (by decide) ?_
  refine j_iadd E dL_law_1529 ?_
  obtain ⟨o779, h⟩ := h
  refine j_sld E hX.1 hX.2.1 hX.2.2 o779 dL_law_1530 ?_
  refine j_aload_n E dL_law_1531 0 rfl ?_
  refine j_iload E dL_law_1532 4 rfl ?_
  refine j_iconst E (v := 2) dL_law_1534 (by decide) ?_
  refine j_iadd E dL_law_1535 ?_
  obtain ⟨o780, h⟩ := h
  refine j_sld E hX.1 hX.2.1 hX.2.2 o780 dL_law_1536 ?_
  refine j_callV E [.int (xs (v4 + (1 : Int32)).toNatClampNeg), .int (xs (v4 + (2 : Int32)).toNatClampNeg)] [] (c_X12_dies (gL G) (gD G) (gY G) v2 (xs (v4 + (1 : Int32)).toNatClampNeg) (xs (v4 + (2 : Int32)).toNatClampNeg) Z I774 L775 _ hZ kv2 h) (gwV W_1513 W_1514 W_1515 W_695 W_1512) rfl ⟨rfl, fy_X12_dies⟩ ⟨by decide, by decide⟩ (c := 12) rfl (by decide) kv2 rfl rfl (Nat.le_of_ble_eq_true rfl) ⟨by show k9 + (jcz Z - jcz Z5) + 0 + 0 ≤ 601024; have := hb.1; omega, by show n9 + (jsz Z - jsz Z5) + 0 + 0 ≤ 7293034; have := hb.2; omega⟩ dL_law_1537 (fun v781 Z782 I783 L784 q785 => ?_)
  obtain ⟨rfl, r787, rfl, h⟩ := q785
  show jJ G 8 1540 [(0, .ref b), (1, .ref v1), (2, .ref v2), (3, .ref v3), (4, .int v4)] [.int r787] Z I783 L784 (k9 + (jcz Z - jcz Z5) + 0) (n9 + (jsz Z - jsz Z5) + 0)
  refine j_pop E dL_law_1540 rfl ?_
  refine j_goto E 1760 dL_law_1541 (by decide) ?_
  refine j_sub [0, 1, 2, 3, 4] rfl ?_
  refine j_widen (k9 := k9 + (jcz Z - jcz Z5) + 27) (n9 := n9 + (jsz Z - jsz Z5) + 600) (by show k9 + (jcz Z - jcz Z5) + 0 ≤ _; omega) (by show n9 + (jsz Z - jsz Z5) + 0 ≤ _; omega) ?_
  exact m_L_law_b1760 E hX hV hU hl0 hb9 hn9 K23 hK23 v1 v2 v3 v4 Z I783 L784 hZ hx hc hb kv1 kv2 kv3 h
set_option maxRecDepth 100000 in
def f_L_law_b1544 (xs : Nat → Int32) (Ls : Nat) (B : Nat × Nat) (K23 : Nat → Nat → Nat → Int32 → jZ → jI → jL → Prop) (v1 : Nat) (v2 : Nat) (v3 : Nat) (v4 : Int32) (Z : jZ) (I : jI) (L : jL) : Prop := (f_X11_undo v1 Z I L (fun r794 I790 L791 => (f_X12_undo v2 Z I790 L791 (fun r801 I797 L798 => f_L_law_b1760 xs Ls B K23 v1 v2 v3 v4 Z I797 L798))))
set_option maxHeartbeats 4000000 in
set_option maxRecDepth 100000 in
theorem m_L_law_b1544 {G : jG} {Z0 : jZ} {xs : Nat → Int32} {Ls b k9 n9 sa sb : Nat} {B : Nat × Nat} {Z5 : jZ} (E : jE G cL_law RL (Cond.arrayClass .byte :: jT) 8 (some .boolean) room_1 jRL) (hX : va_X b Ls xs (gS G) (gS G).heap ∧ b < (gS G).heap.size ∧ ¬ gA G b) (hV : jV (gA G) (gS G) (gS G).heap) (hU : jU sa sb (gA G) (gS G) (gS G).heap) (hl0 : (gL G).stackTraces = false) (hb9 : k9 + 27 + (B.1 - jcz Z5) ≤ 601024) (hn9 : n9 + 600 + (B.2 - jsz Z5) ≤ 7293034) (K23 : Nat → Nat → Nat → Int32 → jZ → jI → jL → Prop) (hK23 : ∀ (v1 : Nat) (v2 : Nat) (v3 : Nat) (v4 : Int32) (Z : jZ) (I : jI) (L : jL), SH Z → jext Z0 Z → jle Z5 Z → jin B Z → jk Z v1 11 → jk Z v2 12 → jk Z v3 15 → K23 v1 v2 v3 v4 Z I L → jJ G 8 23 [(0, .ref b), (1, .ref v1), (2, .ref v2), (3, .ref v3), (4, .int v4)] [] Z I L (k9 + (jcz Z - jcz Z5) + 27) (n9 + (jsz Z - jsz Z5) + 600)) (v1 : Nat) (v2 : Nat) (v3 : Nat) (v4 : Int32) (Z : jZ) (I : jI) (L : jL) (hZ : SH Z) (hx : jext Z0 Z) (hc : jle Z5 Z) (hb : jin B Z) (kv1 : jk Z v1 11) (kv2 : jk Z v2 12) (kv3 : jk Z v3 15) (h : f_L_law_b1544 xs Ls B K23 v1 v2 v3 v4 Z I L) : jJ G 8 1544 [(0, .ref b), (1, .ref v1), (2, .ref v2), (3, .ref v3), (4, .int v4)] [] Z I L (k9 + (jcz Z - jcz Z5) + 0) (n9 + (jsz Z - jsz Z5) + 0) := by
  unfold f_L_law_b1544 at h
  refine j_aload_n E dL_law_1544 1 rfl ?_
  refine j_callV E [] [] (c_X11_undo (gL G) (gD G) (gY G) v1 Z I L _ hZ kv1 h) (gwV W_1517 W_1518 W_1519 W_40 W_1516) rfl ⟨rfl, fy_X11_undo⟩ ⟨by decide, by decide⟩ (c := 11) rfl (by decide) kv1 rfl rfl (Nat.le_of_ble_eq_true rfl) ⟨by show k9 + (jcz Z - jcz Z5) + 0 + 0 ≤ 601024; have := hb.1; omega, by show n9 + (jsz Z - jsz Z5) + 0 + 0 ≤ 7293034; have := hb.2; omega⟩ dL_law_1545 (fun v788 Z789 I790 L791 q792 => ?_)
  obtain ⟨rfl, r794, rfl, h⟩ := q792
  show jJ G 8 1548 [(0, .ref b), (1, .ref v1), (2, .ref v2), (3, .ref v3), (4, .int v4)] [.int r794] Z I790 L791 (k9 + (jcz Z - jcz Z5) + 0) (n9 + (jsz Z - jsz Z5) + 0)
  refine j_pop E dL_law_1548 rfl ?_
  refine j_aload_n E dL_law_1549 2 rfl ?_
  refine j_callV E [] [] (c_X12_undo (gL G) (gD G) (gY G) v2 Z I790 L791 _ hZ kv2 h) (gwV W_1521 W_1522 W_1523 W_695 W_1520) rfl ⟨rfl, fy_X12_undo⟩ ⟨by decide, by decide⟩ (c := 12) rfl (by decide) kv2 rfl rfl (Nat.le_of_ble_eq_true rfl) ⟨by show k9 + (jcz Z - jcz Z5) + 0 + 0 ≤ 601024; have := hb.1; omega, by show n9 + (jsz Z - jsz Z5) + 0 + 0 ≤ 7293034; have := hb.2; omega⟩ dL_law_1550 (fun v795 Z796 I797 L798 q799 => ?_)
  obtain ⟨rfl, r801, rfl, h⟩ := q799
  show jJ G 8 1553 [(0, .ref b), (1, .ref v1), (2, .ref v2), (3, .ref v3), (4, .int v4)] [.int r801] Z I797 L798 (k9 + (jcz Z - jcz Z5) + 0) (n9 + (jsz Z - jsz Z5) + 0)
  refine j_pop E dL_law_1553 rfl ?_
  refine j_goto E 1760 dL_law_1554 (by decide) ?_
  refine j_sub [0, 1, 2, 3, 4] rfl ?_
  refine j_widen (k9 := k9 + (jcz Z - jcz Z5) + 27) (n9 := n9 + (jsz Z - jsz Z5) + 600) (by show k9 + (jcz Z - jcz Z5) + 0 ≤ _; omega) (by show n9 + (jsz Z - jsz Z5) + 0 ≤ _; omega) ?_
  exact m_L_law_b1760 E hX hV hU hl0 hb9 hn9 K23 hK23 v1 v2 v3 v4 Z I797 L798 hZ hx hc hb kv1 kv2 kv3 h
set_option maxRecDepth 100000 in
def f_L_law_b1557 (xs : Nat → Int32) (Ls : Nat) (B : Nat × Nat) (K23 : Nat → Nat → Nat → Int32 → jZ → jI → jL → Prop) (v1 : Nat) (v2 : Nat) (v3 : Nat) (v4 : Int32) (Z : jZ) (I : jI) (L : jL) : Prop := (vp_in (v4 + (1 : Int32)) Ls ∧ (f_X11_rail v1 (xs (v4 + (1 : Int32)).toNatClampNeg) Z I L (fun r809 I805 L806 => (vp_in (v4 + (1 : Int32)) Ls ∧ (f_X12_rail v2 (xs (v4 + (1 : Int32)).toNatClampNeg) Z I805 L806 (fun r817 I813 L814 => f_L_law_b1760 xs Ls B K23 v1 v2 v3 v4 Z I813 L814))))))
set_option maxHeartbeats 4000000 in
set_option maxRecDepth 100000 in
theorem m_L_law_b1557 {G : jG} {Z0 : jZ} {xs : Nat → Int32} {Ls b k9 n9 sa sb : Nat} {B : Nat × Nat} {Z5 : jZ} (E : jE G cL_law RL (Cond.arrayClass .byte :: jT) 8 (some .boolean) room_1 jRL) (hX : va_X b Ls xs (gS G) (gS G).heap ∧ b < (gS G).heap.size ∧ ¬ gA G b) (hV : jV (gA G) (gS G) (gS G).heap) (hU : jU sa sb (gA G) (gS G) (gS G).heap) (hl0 : (gL G).stackTraces = false) (hb9 : k9 + 27 + (B.1 - jcz Z5) ≤ 601024) (hn9 : n9 + 600 + (B.2 - jsz Z5) ≤ 7293034) (K23 : Nat → Nat → Nat → Int32 → jZ → jI → jL → Prop) (hK23 : ∀ (v1 : Nat) (v2 : Nat) (v3 : Nat) (v4 : Int32) (Z : jZ) (I : jI) (L : jL), SH Z → jext Z0 Z → jle Z5 Z → jin B Z → jk Z v1 11 → jk Z v2 12 → jk Z v3 15 → K23 v1 v2 v3 v4 Z I L → jJ G 8 23 [(0, .ref b), (1, .ref v1), (2, .ref v2), (3, .ref v3), (4, .int v4)] [] Z I L (k9 + (jcz Z - jcz Z5) + 27) (n9 + (jsz Z - jsz Z5) + 600)) (v1 : Nat) (v2 : Nat) (v3 : Nat) (v4 : Int32) (Z : jZ) (I : jI) (L : jL) (hZ : SH Z) (hx : jext Z0 Z) (hc : jle Z5 Z) (hb : jin B Z) (kv1 : jk Z v1 11) (kv2 : jk Z v2 12) (kv3 : jk Z v3 15) (h : f_L_law_b1557 xs Ls B K23 v1 v2 v3 v4 Z I L) : jJ G 8 1557 [(0, .ref b), (1, .ref v1), (2, .ref v2), (3, .ref v3), (4, .int v4)] [] Z I L (k9 + (jcz Z - jcz Z5) + 0) (n9 + (jsz Z - jsz Z5) + 0) := by
  unfold f_L_law_b1557 at h
  refine j_aload_n E dL_law_1557 1 rfl ?_
  refine j_aload_n E dL_law_1558 0 rfl ?_
  refine j_iload E dL_law_1559 4 rfl ?_
  refine j_iconst E (v := 1) dL_law_1561 (by decide) ?_
  refine j_iadd E dL_law_1562 ?_
  obtain ⟨o802, h⟩ := h
  refine j_sld E hX.1 hX.2.1 hX.2.2 o802 dL_law_1563 ?_
  refine j_callV E [.int (xs (v4 + (1 : Int32)).toNatClampNeg)] [] (c_X11_rail (gL G) (gD G) (gY G) v1 (xs (v4 + (1 : Int32)).toNatClampNeg) Z I L _ hZ kv1 h) (gwV W_1525 W_1526 W_1527 W_40 W_1524) rfl ⟨rfl, fy_X11_rail⟩ ⟨by decide, by decide⟩ (c := 11) rfl (by decide) kv1 rfl rfl (Nat.le_of_ble_eq_true rfl) ⟨by show k9 + (jcz Z - jcz Z5) + 0 + 0 ≤ 601024; have := hb.1; omega, by show n9 + (jsz Z - jsz Z5) + 0 + 0 ≤ 7293034; have := hb.2; omega⟩ dL_law_1564 (fun v803 Z804 I805 L806 q807 => ?_)
  obtain ⟨rfl, r809, rfl, h⟩ := q807
  show jJ G 8 1567 [(0, .ref b), (1, .ref v1), (2, .ref v2), (3, .ref v3), (4, .int v4)] [.int r809] Z I805 L806 (k9 + (jcz Z - jcz Z5) + 0) (n9 + (jsz Z - jsz Z5) + 0)
  refine j_pop E dL_law_1567 rfl ?_
  refine j_aload_n E dL_law_1568 2 rfl ?_
  refine j_aload_n E dL_law_1569 0 rfl ?_
  refine j_iload E dL_law_1570 4 rfl ?_
  refine j_iconst E (v := 1) dL_law_1572 (by decide) ?_
  refine j_iadd E dL_law_1573 ?_
  obtain ⟨o810, h⟩ := h
  refine j_sld E hX.1 hX.2.1 hX.2.2 o810 dL_law_1574 ?_
  refine j_callV E [.int (xs (v4 + (1 : Int32)).toNatClampNeg)] [] (c_X12_rail (gL G) (gD G) (gY G) v2 (xs (v4 + (1 : Int32)).toNatClampNeg) Z I805 L806 _ hZ kv2 h) (gwV W_1529 W_1530 W_1531 W_695 W_1528) rfl ⟨rfl, fy_X12_rail⟩ ⟨by decide, by decide⟩ (c := 12) rfl (by decide) kv2 rfl rfl (Nat.le_of_ble_eq_true rfl) ⟨by show k9 + (jcz Z - jcz Z5) + 0 + 0 ≤ 601024; have := hb.1; omega, by show n9 + (jsz Z - jsz Z5) + 0 + 0 ≤ 7293034; have := hb.2; omega⟩ dL_law_1575 (fun v811 Z812 I813 L814 q815 => ?_)
  obtain ⟨rfl, r817, rfl, h⟩ := q815
  show jJ G 8 1578 [(0, .ref b), (1, .ref v1), (2, .ref v2), (3, .ref v3), (4, .int v4)] [.int r817] Z I813 L814 (k9 + (jcz Z - jcz Z5) + 0) (n9 + (jsz Z - jsz Z5) + 0)
  refine j_pop E dL_law_1578 rfl ?_
  refine j_goto E 1760 dL_law_1579 (by decide) ?_
  refine j_sub [0, 1, 2, 3, 4] rfl ?_
  refine j_widen (k9 := k9 + (jcz Z - jcz Z5) + 27) (n9 := n9 + (jsz Z - jsz Z5) + 600) (by show k9 + (jcz Z - jcz Z5) + 0 ≤ _; omega) (by show n9 + (jsz Z - jsz Z5) + 0 ≤ _; omega) ?_
  exact m_L_law_b1760 E hX hV hU hl0 hb9 hn9 K23 hK23 v1 v2 v3 v4 Z I813 L814 hZ hx hc hb kv1 kv2 kv3 h
set_option maxRecDepth 100000 in
def f_L_law_b1582 (xs : Nat → Int32) (Ls : Nat) (B : Nat × Nat) (K23 : Nat → Nat → Nat → Int32 → jZ → jI → jL → Prop) (v1 : Nat) (v2 : Nat) (v3 : Nat) (v4 : Int32) (Z : jZ) (I : jI) (L : jL) : Prop := (vp_in (v4 + (1 : Int32)) Ls ∧ (vp_in (v4 + (2 : Int32)) Ls ∧ (f_X11_rules v1 (xs (v4 + (1 : Int32)).toNatClampNeg) (xs (v4 + (2 : Int32)).toNatClampNeg) Z I L (fun r826 I822 L823 => (vp_in (v4 + (1 : Int32)) Ls ∧ (vp_in (v4 + (2 : Int32)) Ls ∧ (f_X12_rules v2 (xs (v4 + (1 : Int32)).toNatClampNeg) (xs (v4 + (2 : Int32)).toNatClampNeg) Z I822 L823 (fun r835 I831 L832 => f_L_law_b1760 xs Ls B K23 v1 v2 v3 v4 Z I831 L832))))))))
set_option maxHeartbeats 4000000 in
set_option maxRecDepth 100000 in
theorem m_L_law_b1582 {G : jG} {Z0 : jZ} {xs : Nat → Int32} {Ls b k9 n9 sa sb : Nat} {B : Nat × Nat} {Z5 : jZ} (E : jE G cL_law RL (Cond.arrayClass .byte :: jT) 8 (some .boolean) room_1 jRL) (hX : va_X b Ls xs (gS G) (gS G).heap ∧ b < (gS G).heap.size ∧ ¬ gA G b) (hV : jV (gA G) (gS G) (gS G).heap) (hU : jU sa sb (gA G) (gS G) (gS G).heap) (hl0 : (gL G).stackTraces = false) (hb9 : k9 + 27 + (B.1 - jcz Z5) ≤ 601024) (hn9 : n9 + 600 + (B.2 - jsz Z5) ≤ 7293034) (K23 : Nat → Nat → Nat → Int32 → jZ → jI → jL → Prop) (hK23 : ∀ (v1 : Nat) (v2 : Nat) (v3 : Nat) (v4 : Int32) (Z : jZ) (I : jI) (L : jL), SH Z → jext Z0 Z → jle Z5 Z → jin B Z → jk Z v1 11 → jk Z v2 12 → jk Z v3 15 → K23 v1 v2 v3 v4 Z I L → jJ G 8 23 [(0, .ref b), (1, .ref v1), (2, .ref v2), (3, .ref v3), (4, .int v4)] [] Z I L (k9 + (jcz Z - jcz Z5) + 27) (n9 + (jsz Z - jsz Z5) + 600)) (v1 : Nat) (v2 : Nat) (v3 : Nat) (v4 : Int32) (Z : jZ) (I : jI) (L : jL) (hZ : SH Z) (hx : jext Z0 Z) (hc : jle Z5 Z) (hb : jin B Z) (kv1 : jk Z v1 11) (kv2 : jk Z v2 12) (kv3 : jk Z v3 15) (h : f_L_law_b1582 xs Ls B K23 v1 v2 v3 v4 Z I L) : jJ G 8 1582 [(0, .ref b), (1, .ref v1), (2, .ref v2), (3, .ref v3), (4, .int v4)] [] Z I L (k9 + (jcz Z - jcz Z5) + 0) (n9 + (jsz Z - jsz Z5) + 0) := by
  unfold f_L_law_b1582 at h
  refine j_aload_n E dL_law_1582 1 rfl ?_
  refine j_aload_n E dL_law_1583 0 rfl ?_
  refine j_iload E dL_law_1584 4 rfl ?_
  refine j_iconst E (v := 1) dL_law_1586 (by decide) ?_
  refine j_iadd E dL_law_1587 ?_
  obtain ⟨o818, h⟩ := h
  refine j_sld E hX.1 hX.2.1 hX.2.2 o818 dL_law_1588 ?_
  refine j_aload_n E dL_law_1589 0 rfl ?_
  refine j_iload E dL_law_1590 4 rfl ?_
  refine j_iconst E (v := 2) dL_law_1592 (by decide) ?_
  refine j_iadd E dL_law_1593 ?_
  obtain ⟨o819, h⟩ := h
  refine j_sld E hX.1 hX.2.1 hX.2.2 o819 dL_law_1594 ?_
  refine j_callV E [.int (xs (v4 + (1 : Int32)).toNatClampNeg), .int (xs (v4 + (2 : Int32)).toNatClampNeg)] [] (c_X11_rules (gL G) (gD G) (gY G) v1 (xs (v4 + (1 : Int32)).toNatClampNeg) (xs (v4 + (2 : Int32)).toNatClampNeg) Z I L _ hZ kv1 h) (gwV W_1533 W_1534 W_1535 W_40 W_1532) rfl ⟨rfl, fy_X11_rules⟩ ⟨by decide, by decide⟩ (c := 11) rfl (by decide) kv1 rfl rfl (Nat.le_of_ble_eq_true rfl) ⟨by show k9 + (jcz Z - jcz Z5) + 0 + 0 ≤ 601024; have := hb.1; omega, by show n9 + (jsz Z - jsz Z5) + 0 + 0 ≤ 7293034; have := hb.2; omega⟩ dL_law_1595 (fun v820 Z821 I822 L823 q824 => ?_)
  obtain ⟨rfl, r826, rfl, h⟩ := q824
  show jJ G 8 1598 [(0, .ref b), (1, .ref v1), (2, .ref v2), (3, .ref v3), (4, .int v4)] [.int r826] Z I822 L823 (k9 + (jcz Z - jcz Z5) + 0) (n9 + (jsz Z - jsz Z5) + 0)
  refine j_pop E dL_law_1598 rfl ?_
  refine j_aload_n E dL_law_1599 2 rfl ?_
  refine j_aload_n E dL_law_1600 0 rfl ?_
  refine j_iload E dL_law_1601 4 rfl ?_
  refine j_iconst E (v := 1) dL_law_1603 (by decide) ?_
  refine j_iadd E dL_law_1604 ?_
  obtain ⟨o827, h⟩ := h
  refine j_sld E hX.1 hX.2.1 hX.2.2 o827 dL_law_1605 ?_
  refine j_aload_n E dL_law_1606 0 rfl ?_
  refine j_iload E dL_law_1607 4 rfl ?_
  refine j_iconst E (v := 2) dL_law_1609 (by decide) ?_
  refine j_iadd E dL_law_1610 ?_
  obtain ⟨o828, h⟩ := h
  refine j_sld E hX.1 hX.2.1 hX.2.2 o828 dL_law_1611 ?_
  refine j_callV E [.int (xs (v4 + (1 : Int32)).toNatClampNeg), .int (xs (v4 + (2 : Int32)).toNatClampNeg)] [] (c_X12_rules (gL G) (gD G) (gY G) v2 (xs (v4 + (1 : Int32)).toNatClampNeg) (xs (v4 + (2 : Int32)).toNatClampNeg) Z I822 L823 _ hZ kv2 h) (gwV W_1537 W_1538 W_1539 W_695 W_1536) rfl ⟨rfl, fy_X12_rules⟩ ⟨by decide, by decide⟩ (c := 12) rfl (by decide) kv2 rfl rfl (Nat.le_of_ble_eq_true rfl) ⟨by show k9 + (jcz Z - jcz Z5) + 0 + 0 ≤ 601024; have := hb.1; omega, by show n9 + (jsz Z - jsz Z5) + 0 + 0 ≤ 7293034; have := hb.2; omega⟩ dL_law_1612 (fun v829 Z830 I831 L832 q833 => ?_)
  obtain ⟨rfl, r835, rfl, h⟩ := q833
  show jJ G 8 1615 [(0, .ref b), (1, .ref v1), (2, .ref v2), (3, .ref v3), (4, .int v4)] [.int r835] Z I831 L832 (k9 + (jcz Z - jcz Z5) + 0) (n9 + (jsz Z - jsz Z5) + 0)
  refine j_pop E dL_law_1615 rfl ?_
  refine j_goto E 1760 dL_law_1616 (by decide) ?_
  refine j_sub [0, 1, 2, 3, 4] rfl ?_
  refine j_widen (k9 := k9 + (jcz Z - jcz Z5) + 27) (n9 := n9 + (jsz Z - jsz Z5) + 600) (by show k9 + (jcz Z - jcz Z5) + 0 ≤ _; omega) (by show n9 + (jsz Z - jsz Z5) + 0 ≤ _; omega) ?_
  exact m_L_law_b1760 E hX hV hU hl0 hb9 hn9 K23 hK23 v1 v2 v3 v4 Z I831 L832 hZ hx hc hb kv1 kv2 kv3 h
set_option maxRecDepth 100000 in
def f_L_law_b1619 (xs : Nat → Int32) (Ls : Nat) (B : Nat × Nat) (K23 : Nat → Nat → Nat → Int32 → jZ → jI → jL → Prop) (v1 : Nat) (v2 : Nat) (v3 : Nat) (v4 : Int32) (Z : jZ) (I : jI) (L : jL) : Prop := (vp_in (v4 + (1 : Int32)) Ls ∧ (f_X11_feast B v1 (xs (v4 + (1 : Int32)).toNatClampNeg) Z I L (fun r843 Z838 I839 L840 => (vp_in (v4 + (1 : Int32)) Ls ∧ (f_X12_feast B v2 (xs (v4 + (1 : Int32)).toNatClampNeg) Z838 I839 L840 (fun r854 Z849 I850 L851 => f_L_law_b1760 xs Ls B K23 v1 v2 v3 v4 Z849 I850 L851))))))
set_option maxHeartbeats 4000000 in
set_option maxRecDepth 100000 in
theorem m_L_law_b1619 {G : jG} {Z0 : jZ} {xs : Nat → Int32} {Ls b k9 n9 sa sb : Nat} {B : Nat × Nat} {Z5 : jZ} (E : jE G cL_law RL (Cond.arrayClass .byte :: jT) 8 (some .boolean) room_1 jRL) (hX : va_X b Ls xs (gS G) (gS G).heap ∧ b < (gS G).heap.size ∧ ¬ gA G b) (hV : jV (gA G) (gS G) (gS G).heap) (hU : jU sa sb (gA G) (gS G) (gS G).heap) (hl0 : (gL G).stackTraces = false) (hb9 : k9 + 27 + (B.1 - jcz Z5) ≤ 601024) (hn9 : n9 + 600 + (B.2 - jsz Z5) ≤ 7293034) (K23 : Nat → Nat → Nat → Int32 → jZ → jI → jL → Prop) (hK23 : ∀ (v1 : Nat) (v2 : Nat) (v3 : Nat) (v4 : Int32) (Z : jZ) (I : jI) (L : jL), SH Z → jext Z0 Z → jle Z5 Z → jin B Z → jk Z v1 11 → jk Z v2 12 → jk Z v3 15 → K23 v1 v2 v3 v4 Z I L → jJ G 8 23 [(0, .ref b), (1, .ref v1), (2, .ref v2), (3, .ref v3), (4, .int v4)] [] Z I L (k9 + (jcz Z - jcz Z5) + 27) (n9 + (jsz Z - jsz Z5) + 600)) (v1 : Nat) (v2 : Nat) (v3 : Nat) (v4 : Int32) (Z : jZ) (I : jI) (L : jL) (hZ : SH Z) (hx : jext Z0 Z) (hc : jle Z5 Z) (hb : jin B Z) (kv1 : jk Z v1 11) (kv2 : jk Z v2 12) (kv3 : jk Z v3 15) (h : f_L_law_b1619 xs Ls B K23 v1 v2 v3 v4 Z I L) : jJ G 8 1619 [(0, .ref b), (1, .ref v1), (2, .ref v2), (3, .ref v3), (4, .int v4)] [] Z I L (k9 + (jcz Z - jcz Z5) + 0) (n9 + (jsz Z - jsz Z5) + 0) := by
  unfold f_L_law_b1619 at h
  refine j_aload_n E dL_law_1619 1 rfl ?_
  refine j_aload_n E dL_law_1620 0 rfl ?_
  refine j_iload E dL_law_1621 4 rfl ?_
  refine j_iconst E (v := 1) dL_law_1623 (by decide) ?_
  refine j_iadd E dL_law_1624 ?_
  obtain ⟨o836, h⟩ := h
  refine j_sld E hX.1 hX.2.1 hX.2.2 o836 dL_law_1625 ?_
  refine ju_callV E [.int (xs (v4 + (1 : Int32)).toNatClampNeg)] [] (c_X11_feast (gL G) (gD G) (gY G) B v1 (xs (v4 + (1 : Int32)).toNatClampNeg) Z I L _ hZ hb kv1 h) (gwV W_1541 W_1542 W_1543 W_40 W_1540) rfl ⟨rfl, fy_X11_feast⟩ ⟨by decide, by decide⟩ (c := 11) rfl (by decide) kv1 rfl rfl (Nat.le_of_ble_eq_true rfl) ⟨by show k9 + (jcz Z - jcz Z5) + 0 + (B.1 - jcz Z) ≤ 601024; have := hb.1; have := hc.1; omega, by show n9 + (jsz Z - jsz Z5) + 0 + (B.2 - jsz Z) ≤ 7293034; have := hb.2; have := hc.2; omega⟩ dL_law_1626 (fun v837 Z838 I839 L840 q841 j842 => ?_)
  refine j_kn (k' := k9 + (jcz Z838 - jcz Z5) + 0) (n' := n9 + (jsz Z838 - jsz Z5) + 0) (by have := hc.1; have := j842.1; omega) (by have := hc.2; have := j842.2; omega) ?_
  have hc := jle_trans hc j842
  obtain ⟨yZ838, hZ838, hbZ838, r843, rfl, h⟩ := q841
  have hZ := hZ838
  have hx : jext Z0 Z838 := jext_trans hx yZ838
  have hb := hbZ838
  have k844 := (yZ838 _ _ kv1).1
  have k845 := (yZ838 _ _ kv2).1
  have k846 := (yZ838 _ _ kv3).1
  show jJ G 8 1629 [(0, .ref b), (1, .ref v1), (2, .ref v2), (3, .ref v3), (4, .int v4)] [.int r843] Z838 I839 L840 (k9 + (jcz Z838 - jcz Z5) + 0) (n9 + (jsz Z838 - jsz Z5) + 0)
  refine j_pop E dL_law_1629 rfl ?_
  refine j_aload_n E dL_law_1630 2 rfl ?_
  refine j_aload_n E dL_law_1631 0 rfl ?_
  refine j_iload E dL_law_1632 4 rfl ?_
  refine j_iconst E (v := 1) dL_law_1634 (by decide) ?_
  refine j_iadd E dL_law_1635 ?_
  obtain ⟨o847, h⟩ := h
  refine j_sld E hX.1 hX.2.1 hX.2.2 o847 dL_law_1636 ?_
  refine ju_callV E [.int (xs (v4 + (1 : Int32)).toNatClampNeg)] [] (c_X12_feast (gL G) (gD G) (gY G) B v2 (xs (v4 + (1 : Int32)).toNatClampNeg) Z838 I839 L840 _ hZ hb k845 h) (gwV W_1545 W_1546 W_1547 W_695 W_1544) rfl ⟨rfl, fy_X12_feast⟩ ⟨by decide, by decide⟩ (c := 12) rfl (by decide) k845 rfl rfl (Nat.le_of_ble_eq_true rfl) ⟨by show k9 + (jcz Z838 - jcz Z5) + 0 + (B.1 - jcz Z838) ≤ 601024; have := hb.1; have := hc.1; omega, by show n9 + (jsz Z838 - jsz Z5) + 0 + (B.2 - jsz Z838) ≤ 7293034; have := hb.2; have := hc.2; omega⟩ dL_law_1637 (fun v848 Z849 I850 L851 q852 j853 => ?_)
  refine j_kn (k' := k9 + (jcz Z849 - jcz Z5) + 0) (n' := n9 + (jsz Z849 - jsz Z5) + 0) (by have := hc.1; have := j853.1; omega) (by have := hc.2; have := j853.2; omega) ?_
  have hc := jle_trans hc j853
  obtain ⟨yZ849, hZ849, hbZ849, r854, rfl, h⟩ := q852
  have hZ := hZ849
  have hx : jext Z0 Z849 := jext_trans hx yZ849
  have hb := hbZ849
  have k855 := (yZ849 _ _ k844).1
  have k856 := (yZ849 _ _ k845).1
  have k857 := (yZ849 _ _ k846).1
  show jJ G 8 1640 [(0, .ref b), (1, .ref v1), (2, .ref v2), (3, .ref v3), (4, .int v4)] [.int r854] Z849 I850 L851 (k9 + (jcz Z849 - jcz Z5) + 0) (n9 + (jsz Z849 - jsz Z5) + 0)
  refine j_pop E dL_law_1640 rfl ?_
  refine j_goto E 1760 dL_law_1641 (by decide) ?_
  refine j_sub [0, 1, 2, 3, 4] rfl ?_
  refine j_widen (k9 := k9 + (jcz Z849 - jcz Z5) + 27) (n9 := n9 + (jsz Z849 - jsz Z5) + 600) (by show k9 + (jcz Z849 - jcz Z5) + 0 ≤ _; omega) (by show n9 + (jsz Z849 - jsz Z5) + 0 ≤ _; omega) ?_
  exact m_L_law_b1760 E hX hV hU hl0 hb9 hn9 K23 hK23 v1 v2 v3 v4 Z849 I850 L851 hZ hx hc hb k855 k856 k857 h
set_option maxRecDepth 100000 in
def f_L_law_b1644 (xs : Nat → Int32) (Ls : Nat) (B : Nat × Nat) (K23 : Nat → Nat → Nat → Int32 → jZ → jI → jL → Prop) (v1 : Nat) (v2 : Nat) (v3 : Nat) (v4 : Int32) (Z : jZ) (I : jI) (L : jL) : Prop := (f_X11_jam B v1 Z I L (fun r864 Z859 I860 L861 => (f_X12_jam B v2 Z859 I860 L861 (fun r874 Z869 I870 L871 => f_L_law_b1760 xs Ls B K23 v1 v2 v3 v4 Z869 I870 L871))))
set_option maxHeartbeats 4000000 in
set_option maxRecDepth 100000 in
theorem m_L_law_b1644 {G : jG} {Z0 : jZ} {xs : Nat → Int32} {Ls b k9 n9 sa sb : Nat} {B : Nat × Nat} {Z5 : jZ} (E : jE G cL_law RL (Cond.arrayClass .byte :: jT) 8 (some .boolean) room_1 jRL) (hX : va_X b Ls xs (gS G) (gS G).heap ∧ b < (gS G).heap.size ∧ ¬ gA G b) (hV : jV (gA G) (gS G) (gS G).heap) (hU : jU sa sb (gA G) (gS G) (gS G).heap) (hl0 : (gL G).stackTraces = false) (hb9 : k9 + 27 + (B.1 - jcz Z5) ≤ 601024) (hn9 : n9 + 600 + (B.2 - jsz Z5) ≤ 7293034) (K23 : Nat → Nat → Nat → Int32 → jZ → jI → jL → Prop) (hK23 : ∀ (v1 : Nat) (v2 : Nat) (v3 : Nat) (v4 : Int32) (Z : jZ) (I : jI) (L : jL), SH Z → jext Z0 Z → jle Z5 Z → jin B Z → jk Z v1 11 → jk Z v2 12 → jk Z v3 15 → K23 v1 v2 v3 v4 Z I L → jJ G 8 23 [(0, .ref b), (1, .ref v1), (2, .ref v2), (3, .ref v3), (4, .int v4)] [] Z I L (k9 + (jcz Z - jcz Z5) + 27) (n9 + (jsz Z - jsz Z5) + 600)) (v1 : Nat) (v2 : Nat) (v3 : Nat) (v4 : Int32) (Z : jZ) (I : jI) (L : jL) (hZ : SH Z) (hx : jext Z0 Z) (hc : jle Z5 Z) (hb : jin B Z) (kv1 : jk Z v1 11) (kv2 : jk Z v2 12) (kv3 : jk Z v3 15) (h : f_L_law_b1644 xs Ls B K23 v1 v2 v3 v4 Z I L) : jJ G 8 1644 [(0, .ref b), (1, .ref v1), (2, .ref v2), (3, .ref v3), (4, .int v4)] [] Z I L (k9 + (jcz Z - jcz Z5) + 0) (n9 + (jsz Z - jsz Z5) + 0) := by
  unfold f_L_law_b1644 at h
  refine j_aload_n E dL_law_1644 1 rfl ?_
  refine ju_callV E [] [] (c_X11_jam (gL G) (gD G) (gY G) B v1 Z I L _ hZ hb kv1 h) (gwV W_1549 W_1550 W_1551 W_40 W_1548) rfl ⟨rfl, fy_X11_jam⟩ ⟨by decide, by decide⟩ (c := 11) rfl (by decide) kv1 rfl rfl (Nat.le_of_ble_eq_true rfl) ⟨by show k9 + (jcz Z - jcz Z5) + 0 + (B.1 - jcz Z) ≤ 601024; have := hb.1; have := hc.1; omega, by show n9 + (jsz Z - jsz Z5) + 0 + (B.2 - jsz Z) ≤ 7293034; have := hb.2; have := hc.2; omega⟩ dL_law_1645 (fun v858 Z859 I860 L861 q862 j863 => ?_)
  refine j_kn (k' := k9 + (jcz Z859 - jcz Z5) + 0) (n' := n9 + (jsz Z859 - jsz Z5) + 0) (by have := hc.1; have := j863.1; omega) (by have := hc.2; have := j863.2; omega) ?_
  have hc := jle_trans hc j863
  obtain ⟨yZ859, hZ859, hbZ859, r864, rfl, h⟩ := q862
  have hZ := hZ859
  have hx : jext Z0 Z859 := jext_trans hx yZ859
  have hb := hbZ859
  have k865 := (yZ859 _ _ kv1).1
  have k866 := (yZ859 _ _ kv2).1
  have k867 := (yZ859 _ _ kv3).1
  show jJ G 8 1648 [(0, .ref b), (1, .ref v1), (2, .ref v2), (3, .ref v3), (4, .int v4)] [.int r864] Z859 I860 L861 (k9 + (jcz Z859 - jcz Z5) + 0) (n9 + (jsz Z859 - jsz Z5) + 0)
  refine j_pop E dL_law_1648 rfl ?_
  refine j_aload_n E dL_law_1649 2 rfl ?_
  refine ju_callV E [] [] (c_X12_jam (gL G) (gD G) (gY G) B v2 Z859 I860 L861 _ hZ hb k866 h) (gwV W_1553 W_1554 W_1555 W_695 W_1552) rfl ⟨rfl, fy_X12_jam⟩ ⟨by decide, by decide⟩ (c := 12) rfl (by decide) k866 rfl rfl (Nat.le_of_ble_eq_true rfl) ⟨by show k9 + (jcz Z859 - jcz Z5) + 0 + (B.1 - jcz Z859) ≤ 601024; have := hb.1; have := hc.1; omega, by show n9 + (jsz Z859 - jsz Z5) + 0 + (B.2 - jsz Z859) ≤ 7293034; have := hb.2; have := hc.2; omega⟩ dL_law_1650 (fun v868 Z869 I870 L871 q872 j873 => ?_)
  refine j_kn (k' := k9 + (jcz Z869 - jcz Z5) + 0) (n' := n9 + (jsz Z869 - jsz Z5) + 0) (by have := hc.1; have := j873.1; omega) (by have := hc.2; have := j873.2; omega) ?_
  have hc := jle_trans hc j873
  obtain ⟨yZ869, hZ869, hbZ869, r874, rfl, h⟩ := q872
  have hZ := hZ869
  have hx : jext Z0 Z869 := jext_trans hx yZ869
  have hb := hbZ869
  have k875 := (yZ869 _ _ k865).1
  have k876 := (yZ869 _ _ k866).1
  have k877 := (yZ869 _ _ k867).1
  show jJ G 8 1653 [(0, .ref b), (1, .ref v1), (2, .ref v2), (3, .ref v3), (4, .int v4)] [.int r874] Z869 I870 L871 (k9 + (jcz Z869 - jcz Z5) + 0) (n9 + (jsz Z869 - jsz Z5) + 0)
  refine j_pop E dL_law_1653 rfl ?_
  refine j_goto E 1760 dL_law_1654 (by decide) ?_
  refine j_sub [0, 1, 2, 3, 4] rfl ?_
  refine j_widen (k9 := k9 + (jcz Z869 - jcz Z5) + 27) (n9 := n9 + (jsz Z869 - jsz Z5) + 600) (by show k9 + (jcz Z869 - jcz Z5) + 0 ≤ _; omega) (by show n9 + (jsz Z869 - jsz Z5) + 0 ≤ _; omega) ?_
  exact m_L_law_b1760 E hX hV hU hl0 hb9 hn9 K23 hK23 v1 v2 v3 v4 Z869 I870 L871 hZ hx hc hb k875 k876 k877 h
set_option maxRecDepth 100000 in
def f_L_law_b1657 (xs : Nat → Int32) (Ls : Nat) (B : Nat × Nat) (K23 : Nat → Nat → Nat → Int32 → jZ → jI → jL → Prop) (v1 : Nat) (v2 : Nat) (v3 : Nat) (v4 : Int32) (Z : jZ) (I : jI) (L : jL) : Prop := (vp_in (v4 + (1 : Int32)) Ls ∧ (f_X11_keep v1 (xs (v4 + (1 : Int32)).toNatClampNeg) Z I L (fun r885 I881 L882 => (vp_in (v4 + (1 : Int32)) Ls ∧ (f_X12_keep v2 (xs (v4 + (1 : Int32)).toNatClampNeg) Z I881 L882 (fun r893 I889 L890 => f_L_law_b1760 xs Ls B K23 v1 v2 v3 v4 Z I889 L890))))))
set_option maxHeartbeats 4000000 in
set_option maxRecDepth 100000 in
theorem m_L_law_b1657 {G : jG} {Z0 : jZ} {xs : Nat → Int32} {Ls b k9 n9 sa sb : Nat} {B : Nat × Nat} {Z5 : jZ} (E : jE G cL_law RL (Cond.arrayClass .byte :: jT) 8 (some .boolean) room_1 jRL) (hX : va_X b Ls xs (gS G) (gS G).heap ∧ b < (gS G).heap.size ∧ ¬ gA G b) (hV : jV (gA G) (gS G) (gS G).heap) (hU : jU sa sb (gA G) (gS G) (gS G).heap) (hl0 : (gL G).stackTraces = false) (hb9 : k9 + 27 + (B.1 - jcz Z5) ≤ 601024) (hn9 : n9 + 600 + (B.2 - jsz Z5) ≤ 7293034) (K23 : Nat → Nat → Nat → Int32 → jZ → jI → jL → Prop) (hK23 : ∀ (v1 : Nat) (v2 : Nat) (v3 : Nat) (v4 : Int32) (Z : jZ) (I : jI) (L : jL), SH Z → jext Z0 Z → jle Z5 Z → jin B Z → jk Z v1 11 → jk Z v2 12 → jk Z v3 15 → K23 v1 v2 v3 v4 Z I L → jJ G 8 23 [(0, .ref b), (1, .ref v1), (2, .ref v2), (3, .ref v3), (4, .int v4)] [] Z I L (k9 + (jcz Z - jcz Z5) + 27) (n9 + (jsz Z - jsz Z5) + 600)) (v1 : Nat) (v2 : Nat) (v3 : Nat) (v4 : Int32) (Z : jZ) (I : jI) (L : jL) (hZ : SH Z) (hx : jext Z0 Z) (hc : jle Z5 Z) (hb : jin B Z) (kv1 : jk Z v1 11) (kv2 : jk Z v2 12) (kv3 : jk Z v3 15) (h : f_L_law_b1657 xs Ls B K23 v1 v2 v3 v4 Z I L) : jJ G 8 1657 [(0, .ref b), (1, .ref v1), (2, .ref v2), (3, .ref v3), (4, .int v4)] [] Z I L (k9 + (jcz Z - jcz Z5) + 0) (n9 + (jsz Z - jsz Z5) + 0) := by
  unfold f_L_law_b1657 at h
  refine j_aload_n E dL_law_1657 1 rfl ?_
  refine j_aload_n E dL_law_1658 0 rfl ?_
  refine j_iload E dL_law_1659 4 rfl ?_
  refine j_iconst E (v := 1) dL_law_1661 (by decide) ?_
  refine j_iadd E dL_law_1662 ?_
  obtain ⟨o878, h⟩ := h
  refine j_sld E hX.1 hX.2.1 hX.2.2 o878 dL_law_1663 ?_
  refine j_callV E [.int (xs (v4 + (1 : Int32)).toNatClampNeg)] [] (c_X11_keep (gL G) (gD G) (gY G) v1 (xs (v4 + (1 : Int32)).toNatClampNeg) Z I L _ hZ kv1 h) (gwV W_1557 W_1558 W_1559 W_40 W_1556) rfl ⟨rfl, fy_X11_keep⟩ ⟨by decide, by decide⟩ (c := 11) rfl (by decide) kv1 rfl rfl (Nat.le_of_ble_eq_true rfl) ⟨by show k9 + (jcz Z - jcz Z5) + 0 + 0 ≤ 601024; have := hb.1; omega, by show n9 + (jsz Z - jsz Z5) + 0 + 0 ≤ 7293034; have := hb.2; omega⟩ dL_law_1664 (fun v879 Z880 I881 L882 q883 => ?_)
  obtain ⟨rfl, r885, rfl, zr885, h⟩ := q883
  show jJ G 8 1667 [(0, .ref b), (1, .ref v1), (2, .ref v2), (3, .ref v3), (4, .int v4)] [.int r885] Z I881 L882 (k9 + (jcz Z - jcz Z5) + 0) (n9 + (jsz Z - jsz Z5) + 0)
  refine j_pop E dL_law_1667 rfl ?_
  refine j_aload_n E dL_law_1668 2 rfl ?_
  refine j_aload_n E dL_law_1669 0 rfl ?_
  refine j_iload E dL_law_1670 4 rfl ?_
  refine j_iconst E (v := 1) dL_law_1672 (by decide) ?_
  refine j_iadd E dL_law_1673 ?_
  obtain ⟨o886, h⟩ := h
  refine j_sld E hX.1 hX.2.1 hX.2.2 o886 dL_law_1674 ?_
  refine j_callV E [.int (xs (v4 + (1 : Int32)).toNatClampNeg)] [] (c_X12_keep (gL G) (gD G) (gY G) v2 (xs (v4 + (1 : Int32)).toNatClampNeg) Z I881 L882 _ hZ kv2 h) (gwV W_1561 W_1562 W_1563 W_695 W_1560) rfl ⟨rfl, fy_X12_keep⟩ ⟨by decide, by decide⟩ (c := 12) rfl (by decide) kv2 rfl rfl (Nat.le_of_ble_eq_true rfl) ⟨by show k9 + (jcz Z - jcz Z5) + 0 + 0 ≤ 601024; have := hb.1; omega, by show n9 + (jsz Z - jsz Z5) + 0 + 0 ≤ 7293034; have := hb.2; omega⟩ dL_law_1675 (fun v887 Z888 I889 L890 q891 => ?_)
  obtain ⟨rfl, r893, rfl, zr893, h⟩ := q891
  show jJ G 8 1678 [(0, .ref b), (1, .ref v1), (2, .ref v2), (3, .ref v3), (4, .int v4)] [.int r893] Z I889 L890 (k9 + (jcz Z - jcz Z5) + 0) (n9 + (jsz Z - jsz Z5) + 0)
  refine j_pop E dL_law_1678 rfl ?_
  refine j_goto E 1760 dL_law_1679 (by decide) ?_
  refine j_sub [0, 1, 2, 3, 4] rfl ?_
  refine j_widen (k9 := k9 + (jcz Z - jcz Z5) + 27) (n9 := n9 + (jsz Z - jsz Z5) + 600) (by show k9 + (jcz Z - jcz Z5) + 0 ≤ _; omega) (by show n9 + (jsz Z - jsz Z5) + 0 ≤ _; omega) ?_
  exact m_L_law_b1760 E hX hV hU hl0 hb9 hn9 K23 hK23 v1 v2 v3 v4 Z I889 L890 hZ hx hc hb kv1 kv2 kv3 h
set_option maxRecDepth 100000 in
def f_L_law_b1682 (xs : Nat → Int32) (Ls : Nat) (B : Nat × Nat) (K23 : Nat → Nat → Nat → Int32 → jZ → jI → jL → Prop) (v1 : Nat) (v2 : Nat) (v3 : Nat) (v4 : Int32) (Z : jZ) (I : jI) (L : jL) : Prop := (vp_in (v4 + (1 : Int32)) Ls ∧ (f_X11_again v1 (xs (v4 + (1 : Int32)).toNatClampNeg) Z I L (fun r901 I897 L898 => (vp_in (v4 + (1 : Int32)) Ls ∧ (f_X12_again v2 (xs (v4 + (1 : Int32)).toNatClampNeg) Z I897 L898 (fun r909 I905 L906 => f_L_law_b1760 xs Ls B K23 v1 v2 v3 v4 Z I905 L906))))))
set_option maxHeartbeats 4000000 in
set_option maxRecDepth 100000 in
theorem m_L_law_b1682 {G : jG} {Z0 : jZ} {xs : Nat → Int32} {Ls b k9 n9 sa sb : Nat} {B : Nat × Nat} {Z5 : jZ} (E : jE G cL_law RL (Cond.arrayClass .byte :: jT) 8 (some .boolean) room_1 jRL) (hX : va_X b Ls xs (gS G) (gS G).heap ∧ b < (gS G).heap.size ∧ ¬ gA G b) (hV : jV (gA G) (gS G) (gS G).heap) (hU : jU sa sb (gA G) (gS G) (gS G).heap) (hl0 : (gL G).stackTraces = false) (hb9 : k9 + 27 + (B.1 - jcz Z5) ≤ 601024) (hn9 : n9 + 600 + (B.2 - jsz Z5) ≤ 7293034) (K23 : Nat → Nat → Nat → Int32 → jZ → jI → jL → Prop) (hK23 : ∀ (v1 : Nat) (v2 : Nat) (v3 : Nat) (v4 : Int32) (Z : jZ) (I : jI) (L : jL), SH Z → jext Z0 Z → jle Z5 Z → jin B Z → jk Z v1 11 → jk Z v2 12 → jk Z v3 15 → K23 v1 v2 v3 v4 Z I L → jJ G 8 23 [(0, .ref b), (1, .ref v1), (2, .ref v2), (3, .ref v3), (4, .int v4)] [] Z I L (k9 + (jcz Z - jcz Z5) + 27) (n9 + (jsz Z - jsz Z5) + 600)) (v1 : Nat) (v2 : Nat) (v3 : Nat) (v4 : Int32) (Z : jZ) (I : jI) (L : jL) (hZ : SH Z) (hx : jext Z0 Z) (hc : jle Z5 Z) (hb : jin B Z) (kv1 : jk Z v1 11) (kv2 : jk Z v2 12) (kv3 : jk Z v3 15) (h : f_L_law_b1682 xs Ls B K23 v1 v2 v3 v4 Z I L) : jJ G 8 1682 [(0, .ref b), (1, .ref v1), (2, .ref v2), (3, .ref v3), (4, .int v4)] [] Z I L (k9 + (jcz Z - jcz Z5) + 0) (n9 + (jsz Z - jsz Z5) + 0) := by
  unfold f_L_law_b1682 at h
  refine j_aload_n E dL_law_1682 1 rfl ?_
  refine j_aload_n E dL_law_1683 0 rfl ?_
  refine j_iload E dL_law_1684 4 rfl ?_
  refine j_iconst E (v := 1) dL_law_1686 (by decide) ?_
  refine j_iadd E dL_law_1687 ?_
  obtain ⟨o894, h⟩ := h
  refine j_sld E hX.1 hX.2.1 hX.2.2 o894 dL_law_1688 ?_
  refine j_callV E [.int (xs (v4 + (1 : Int32)).toNatClampNeg)] [] (c_X11_again (gL G) (gD G) (gY G) v1 (xs (v4 + (1 : Int32)).toNatClampNeg) Z I L _ hZ kv1 h) (gwV W_1565 W_1566 W_1567 W_40 W_1564) rfl ⟨rfl, fy_X11_again⟩ ⟨by decide, by decide⟩ (c := 11) rfl (by decide) kv1 rfl rfl (Nat.le_of_ble_eq_true rfl) ⟨by show k9 + (jcz Z - jcz Z5) + 0 + 0 ≤ 601024; have := hb.1; omega, by show n9 + (jsz Z - jsz Z5) + 0 + 0 ≤ 7293034; have := hb.2; omega⟩ dL_law_1689 (fun v895 Z896 I897 L898 q899 => ?_)
  obtain ⟨rfl, r901, rfl, zr901, h⟩ := q899
  show jJ G 8 1692 [(0, .ref b), (1, .ref v1), (2, .ref v2), (3, .ref v3), (4, .int v4)] [.int r901] Z I897 L898 (k9 + (jcz Z - jcz Z5) + 0) (n9 + (jsz Z - jsz Z5) + 0)
  refine j_pop E dL_law_1692 rfl ?_
  refine j_aload_n E dL_law_1693 2 rfl ?_
  refine j_aload_n E dL_law_1694 0 rfl ?_
  refine j_iload E dL_law_1695 4 rfl ?_
  refine j_iconst E (v := 1) dL_law_1697 (by decide) ?_
  refine j_iadd E dL_law_1698 ?_
  obtain ⟨o902, h⟩ := h
  refine j_sld E hX.1 hX.2.1 hX.2.2 o902 dL_law_1699 ?_
  refine j_callV E [.int (xs (v4 + (1 : Int32)).toNatClampNeg)] [] (c_X12_again (gL G) (gD G) (gY G) v2 (xs (v4 + (1 : Int32)).toNatClampNeg) Z I897 L898 _ hZ kv2 h) (gwV W_1569 W_1570 W_1571 W_695 W_1568) rfl ⟨rfl, fy_X12_again⟩ ⟨by decide, by decide⟩ (c := 12) rfl (by decide) kv2 rfl rfl (Nat.le_of_ble_eq_true rfl) ⟨by show k9 + (jcz Z - jcz Z5) + 0 + 0 ≤ 601024; have := hb.1; omega, by show n9 + (jsz Z - jsz Z5) + 0 + 0 ≤ 7293034; have := hb.2; omega⟩ dL_law_1700 (fun v903 Z904 I905 L906 q907 => ?_)
  obtain ⟨rfl, r909, rfl, zr909, h⟩ := q907
  show jJ G 8 1703 [(0, .ref b), (1, .ref v1), (2, .ref v2), (3, .ref v3), (4, .int v4)] [.int r909] Z I905 L906 (k9 + (jcz Z - jcz Z5) + 0) (n9 + (jsz Z - jsz Z5) + 0)
  refine j_pop E dL_law_1703 rfl ?_
  refine j_goto E 1760 dL_law_1704 (by decide) ?_
  refine j_sub [0, 1, 2, 3, 4] rfl ?_
  refine j_widen (k9 := k9 + (jcz Z - jcz Z5) + 27) (n9 := n9 + (jsz Z - jsz Z5) + 600) (by show k9 + (jcz Z - jcz Z5) + 0 ≤ _; omega) (by show n9 + (jsz Z - jsz Z5) + 0 ≤ _; omega) ?_
  exact m_L_law_b1760 E hX hV hU hl0 hb9 hn9 K23 hK23 v1 v2 v3 v4 Z I905 L906 hZ hx hc hb kv1 kv2 kv3 h
set_option maxRecDepth 100000 in
def f_L_law_b1707 (xs : Nat → Int32) (Ls : Nat) (B : Nat × Nat) (K23 : Nat → Nat → Nat → Int32 → jZ → jI → jL → Prop) (v1 : Nat) (v2 : Nat) (v3 : Nat) (v4 : Int32) (Z : jZ) (I : jI) (L : jL) : Prop := (vp_in (v4 + (1 : Int32)) Ls ∧ (f_X11_count v1 (xs (v4 + (1 : Int32)).toNatClampNeg) Z I L (fun r917 I913 L914 => (vp_in (v4 + (1 : Int32)) Ls ∧ (f_X12_count v2 (xs (v4 + (1 : Int32)).toNatClampNeg) Z I913 L914 (fun r925 I921 L922 => f_L_law_b1760 xs Ls B K23 v1 v2 v3 v4 Z I921 L922))))))
set_option maxHeartbeats 4000000 in
set_option maxRecDepth 100000 in
theorem m_L_law_b1707 {G : jG} {Z0 : jZ} {xs : Nat → Int32} {Ls b k9 n9 sa sb : Nat} {B : Nat × Nat} {Z5 : jZ} (E : jE G cL_law RL (Cond.arrayClass .byte :: jT) 8 (some .boolean) room_1 jRL) (hX : va_X b Ls xs (gS G) (gS G).heap ∧ b < (gS G).heap.size ∧ ¬ gA G b) (hV : jV (gA G) (gS G) (gS G).heap) (hU : jU sa sb (gA G) (gS G) (gS G).heap) (hl0 : (gL G).stackTraces = false) (hb9 : k9 + 27 + (B.1 - jcz Z5) ≤ 601024) (hn9 : n9 + 600 + (B.2 - jsz Z5) ≤ 7293034) (K23 : Nat → Nat → Nat → Int32 → jZ → jI → jL → Prop) (hK23 : ∀ (v1 : Nat) (v2 : Nat) (v3 : Nat) (v4 : Int32) (Z : jZ) (I : jI) (L : jL), SH Z → jext Z0 Z → jle Z5 Z → jin B Z → jk Z v1 11 → jk Z v2 12 → jk Z v3 15 → K23 v1 v2 v3 v4 Z I L → jJ G 8 23 [(0, .ref b), (1, .ref v1), (2, .ref v2), (3, .ref v3), (4, .int v4)] [] Z I L (k9 + (jcz Z - jcz Z5) + 27) (n9 + (jsz Z - jsz Z5) + 600)) (v1 : Nat) (v2 : Nat) (v3 : Nat) (v4 : Int32) (Z : jZ) (I : jI) (L : jL) (hZ : SH Z) (hx : jext Z0 Z) (hc : jle Z5 Z) (hb : jin B Z) (kv1 : jk Z v1 11) (kv2 : jk Z v2 12) (kv3 : jk Z v3 15) (h : f_L_law_b1707 xs Ls B K23 v1 v2 v3 v4 Z I L) : jJ G 8 1707 [(0, .ref b), (1, .ref v1), (2, .ref v2), (3, .ref v3), (4, .int v4)] [] Z I L (k9 + (jcz Z - jcz Z5) + 0) (n9 + (jsz Z - jsz Z5) + 0) := by
  unfold f_L_law_b1707 at h
  refine j_aload_n E dL_law_1707 1 rfl ?_
  refine j_aload_n E dL_law_1708 0 rfl ?_
  refine j_iload E dL_law_1709 4 rfl ?_
  refine j_iconst E (v := 1) dL_law_1711 (by decide) ?_
  refine j_iadd E dL_law_1712 ?_
  obtain ⟨o910, h⟩ := h
  refine j_sld E hX.1 hX.2.1 hX.2.2 o910 dL_law_1713 ?_
  refine j_callV E [.int (xs (v4 + (1 : Int32)).toNatClampNeg)] [] (c_X11_count (gL G) (gD G) (gY G) v1 (xs (v4 + (1 : Int32)).toNatClampNeg) Z I L _ hZ kv1 h) (gwV W_1573 W_1574 W_1575 W_40 W_1572) rfl ⟨rfl, fy_X11_count⟩ ⟨by decide, by decide⟩ (c := 11) rfl (by decide) kv1 rfl rfl (Nat.le_of_ble_eq_true rfl) ⟨by show k9 + (jcz Z - jcz Z5) + 0 + 0 ≤ 601024; have := hb.1; omega, by show n9 + (jsz Z - jsz Z5) + 0 + 0 ≤ 7293034; have := hb.2; omega⟩ dL_law_1714 (fun v911 Z912 I913 L914 q915 => ?_)
  obtain ⟨rfl, r917, rfl, h⟩ := q915
  show jJ G 8 1717 [(0, .ref b), (1, .ref v1), (2, .ref v2), (3, .ref v3), (4, .int v4)] [.int r917] Z I913 L914 (k9 + (jcz Z - jcz Z5) + 0) (n9 + (jsz Z - jsz Z5) + 0)
  refine j_pop E dL_law_1717 rfl ?_
  refine j_aload_n E dL_law_1718 2 rfl ?_
  refine j_aload_n E dL_law_1719 0 rfl ?_
  refine j_iload E dL_law_1720 4 rfl ?_
  refine j_iconst E (v := 1) dL_law_1722 (by decide) ?_
  refine j_iadd E dL_law_1723 ?_
  obtain ⟨o918, h⟩ := h
  refine j_sld E hX.1 hX.2.1 hX.2.2 o918 dL_law_1724 ?_
  refine j_callV E [.int (xs (v4 + (1 : Int32)).toNatClampNeg)] [] (c_X12_count (gL G) (gD G) (gY G) v2 (xs (v4 + (1 : Int32)).toNatClampNeg) Z I913 L914 _ hZ kv2 h) (gwV W_1577 W_1578 W_1579 W_695 W_1576) rfl ⟨rfl, fy_X12_count⟩ ⟨by decide, by decide⟩ (c := 12) rfl (by decide) kv2 rfl rfl (Nat.le_of_ble_eq_true rfl) ⟨by show k9 + (jcz Z - jcz Z5) + 0 + 0 ≤ 601024; have := hb.1; omega, by show n9 + (jsz Z - jsz Z5) + 0 + 0 ≤ 7293034; have := hb.2; omega⟩ dL_law_1725 (fun v919 Z920 I921 L922 q923 => ?_)
  obtain ⟨rfl, r925, rfl, h⟩ := q923
  show jJ G 8 1728 [(0, .ref b), (1, .ref v1), (2, .ref v2), (3, .ref v3), (4, .int v4)] [.int r925] Z I921 L922 (k9 + (jcz Z - jcz Z5) + 0) (n9 + (jsz Z - jsz Z5) + 0)
  refine j_pop E dL_law_1728 rfl ?_
  refine j_goto E 1760 dL_law_1729 (by decide) ?_
  refine j_sub [0, 1, 2, 3, 4] rfl ?_
  refine j_widen (k9 := k9 + (jcz Z - jcz Z5) + 27) (n9 := n9 + (jsz Z - jsz Z5) + 600) (by show k9 + (jcz Z - jcz Z5) + 0 ≤ _; omega) (by show n9 + (jsz Z - jsz Z5) + 0 ≤ _; omega) ?_
  exact m_L_law_b1760 E hX hV hU hl0 hb9 hn9 K23 hK23 v1 v2 v3 v4 Z I921 L922 hZ hx hc hb kv1 kv2 kv3 h
set_option maxRecDepth 100000 in
def f_L_law_b1732 (xs : Nat → Int32) (Ls : Nat) (B : Nat × Nat) (K23 : Nat → Nat → Nat → Int32 → jZ → jI → jL → Prop) (v1 : Nat) (v2 : Nat) (v3 : Nat) (v4 : Int32) (Z : jZ) (I : jI) (L : jL) : Prop := (vp_in (v4 + (1 : Int32)) Ls ∧ (f_L_row v1 (xs (v4 + (1 : Int32)).toNatClampNeg) v3 Z I L (fun r933 I929 L930 => (vp_in (v4 + (1 : Int32)) Ls ∧ (f_X12_row v2 (xs (v4 + (1 : Int32)).toNatClampNeg) Z I929 L930 (fun r941 I937 L938 => f_L_law_b1760 xs Ls B K23 v1 v2 v3 v4 Z I937 L938))))))
set_option maxHeartbeats 4000000 in
set_option maxRecDepth 100000 in
theorem m_L_law_b1732 {G : jG} {Z0 : jZ} {xs : Nat → Int32} {Ls b k9 n9 sa sb : Nat} {B : Nat × Nat} {Z5 : jZ} (E : jE G cL_law RL (Cond.arrayClass .byte :: jT) 8 (some .boolean) room_1 jRL) (hX : va_X b Ls xs (gS G) (gS G).heap ∧ b < (gS G).heap.size ∧ ¬ gA G b) (hV : jV (gA G) (gS G) (gS G).heap) (hU : jU sa sb (gA G) (gS G) (gS G).heap) (hl0 : (gL G).stackTraces = false) (hb9 : k9 + 27 + (B.1 - jcz Z5) ≤ 601024) (hn9 : n9 + 600 + (B.2 - jsz Z5) ≤ 7293034) (K23 : Nat → Nat → Nat → Int32 → jZ → jI → jL → Prop) (hK23 : ∀ (v1 : Nat) (v2 : Nat) (v3 : Nat) (v4 : Int32) (Z : jZ) (I : jI) (L : jL), SH Z → jext Z0 Z → jle Z5 Z → jin B Z → jk Z v1 11 → jk Z v2 12 → jk Z v3 15 → K23 v1 v2 v3 v4 Z I L → jJ G 8 23 [(0, .ref b), (1, .ref v1), (2, .ref v2), (3, .ref v3), (4, .int v4)] [] Z I L (k9 + (jcz Z - jcz Z5) + 27) (n9 + (jsz Z - jsz Z5) + 600)) (v1 : Nat) (v2 : Nat) (v3 : Nat) (v4 : Int32) (Z : jZ) (I : jI) (L : jL) (hZ : SH Z) (hx : jext Z0 Z) (hc : jle Z5 Z) (hb : jin B Z) (kv1 : jk Z v1 11) (kv2 : jk Z v2 12) (kv3 : jk Z v3 15) (h : f_L_law_b1732 xs Ls B K23 v1 v2 v3 v4 Z I L) : jJ G 8 1732 [(0, .ref b), (1, .ref v1), (2, .ref v2), (3, .ref v3), (4, .int v4)] [] Z I L (k9 + (jcz Z - jcz Z5) + 0) (n9 + (jsz Z - jsz Z5) + 0) := by
  unfold f_L_law_b1732 at h
  refine j_aload_n E dL_law_1732 1 rfl ?_
  refine j_aload_n E dL_law_1733 0 rfl ?_
  refine j_iload E dL_law_1734 4 rfl ?_
  refine j_iconst E (v := 1) dL_law_1736 (by decide) ?_
  refine j_iadd E dL_law_1737 ?_
  obtain ⟨o926, h⟩ := h
  refine j_sld E hX.1 hX.2.1 hX.2.2 o926 dL_law_1738 ?_
  refine j_aload_n E dL_law_1739 3 rfl ?_
  refine j_callSH E hV [.ref v1, .int (xs (v4 + (1 : Int32)).toNatClampNeg), .ref v3] [] (c_L_row (gL G) hl0 (gD G) (gY G) v1 (xs (v4 + (1 : Int32)).toNatClampNeg) v3 Z I L _ hZ kv1 kv3 h) (gwS W_1580 W_1581 W_1241 W_1582) rfl fy_L_row ⟨by decide, by decide⟩ rfl rfl (Nat.le_of_ble_eq_true rfl) ⟨by show k9 + (jcz Z - jcz Z5) + 0 + 1 ≤ 601024; have := hb.1; omega, by show n9 + (jsz Z - jsz Z5) + 0 + 6 ≤ 7293034; have := hb.2; omega⟩ dL_law_1740 (fun v927 Z928 I929 L930 q931 => ?_)
  obtain ⟨rfl, r933, rfl, h⟩ := q931
  show jJ G 8 1743 [(0, .ref b), (1, .ref v1), (2, .ref v2), (3, .ref v3), (4, .int v4)] [.int r933] Z I929 L930 (k9 + (jcz Z - jcz Z5) + 1) (n9 + (jsz Z - jsz Z5) + 6)
  refine j_istore E 5 [(5, .int r933), (0, .ref b), (1, .ref v1), (2, .ref v2), (3, .ref v3), (4, .int v4)] dL_law_1743 (by decide) rfl ?_
  refine j_aload_n E dL_law_1745 3 rfl ?_
  refine j_aload_n E dL_law_1746 1 rfl ?_
  refine j_iload E dL_law_1747 5 rfl ?_
  refine j_iconst E (v := 1) dL_law_1749 (by decide) ?_
  refine j_iadd E dL_law_1750 ?_
  obtain ⟨o934, h⟩ := h
  refine j_sld E hX.1 hX.2.1 hX.2.2 o934 dL_law_1751 ?_
  refine j_callV E [.int (xs (v4 + (1 : Int32)).toNatClampNeg)] [] (c_X12_row (gL G) (gD G) (gY G) v2 (xs (v4 + (1 : Int32)).toNatClampNeg) Z I929 L930 _ hZ kv2 h) (gwV W_1584 W_1585 W_1586 W_695 W_1583) rfl ⟨rfl, fy_X12_row⟩ ⟨by decide, by decide⟩ (c := 12) rfl (by decide) kv2 rfl rfl (Nat.le_of_ble_eq_true rfl) ⟨by show k9 + (jcz Z - jcz Z5) + 1 + 0 ≤ 601024; have := hb.1; omega, by show n9 + (jsz Z - jsz Z5) + 6 + 0 ≤ 7293034; have := hb.2; omega⟩ dL_law_1752 (fun v935 Z936 I937 L938 q939 => ?_)
  obtain ⟨rfl, r941, rfl, h⟩ := q939
  show jJ G 8 1755 [(5, .int r933), (0, .ref b), (1, .ref v1), (2, .ref v2), (3, .ref v3), (4, .int v4)] [.long r941] Z I937 L938 (k9 + (jcz Z - jcz Z5) + 1) (n9 + (jsz Z - jsz Z5) + 6)
  refine j_lstore E 6 [(6, .long r941), (5, .int r933), (0, .ref b), (1, .ref v1), (2, .ref v2), (3, .ref v3), (4, .int v4)] dL_law_1755 (by decide) rfl ?_
  refine j_goto E 1760 dL_law_1757 (by decide) ?_
  refine j_sub [2, 3, 4, 5, 6] rfl ?_
  refine j_widen (k9 := k9 + (jcz Z - jcz Z5) + 27) (n9 := n9 + (jsz Z - jsz Z5) + 600) (by show k9 + (jcz Z - jcz Z5) + 1 ≤ _; omega) (by show n9 + (jsz Z - jsz Z5) + 6 ≤ _; omega) ?_
  exact m_L_law_b1760 E hX hV hU hl0 hb9 hn9 K23 hK23 v1 v2 v3 v4 Z I937 L938 hZ hx hc hb kv1 kv2 kv3 h
set_option maxRecDepth 100000 in
def f_L_law_L23 (xs : Nat → Int32) (Ls : Nat) (B : Nat × Nat) : Nat → Nat → Nat → Nat → Int32 → jZ → jI → jL → Prop
  | 0 => fun _ _ _ _ _ _ _ => False
  | n + 1 => fun v1 v2 v3 v4 Z I L => ((((Int32.ofNat Ls) - (6 : Int32)) < v4 → True) ∧ (¬ (((Int32.ofNat Ls) - (6 : Int32)) < v4) → (vp_in v4 Ls ∧ ((((xs v4.toNatClampNeg) &&& (63 : Int32)) = 0 → f_L_law_b244 xs Ls B (f_L_law_L23 xs Ls B n) v1 v2 v3 v4 Z I L) ∧ (¬ ((xs v4.toNatClampNeg) &&& (63 : Int32)) = 0 → ((((xs v4.toNatClampNeg) &&& (63 : Int32)) = 1 → f_L_law_b269 xs Ls B (f_L_law_L23 xs Ls B n) v1 v2 v3 v4 Z I L) ∧ (¬ ((xs v4.toNatClampNeg) &&& (63 : Int32)) = 1 → ((((xs v4.toNatClampNeg) &&& (63 : Int32)) = 2 → f_L_law_b294 xs Ls B (f_L_law_L23 xs Ls B n) v1 v2 v3 v4 Z I L) ∧ (¬ ((xs v4.toNatClampNeg) &&& (63 : Int32)) = 2 → ((((xs v4.toNatClampNeg) &&& (63 : Int32)) = 3 → f_L_law_b307 xs Ls B (f_L_law_L23 xs Ls B n) v1 v2 v3 v4 Z I L) ∧ (¬ ((xs v4.toNatClampNeg) &&& (63 : Int32)) = 3 → ((((xs v4.toNatClampNeg) &&& (63 : Int32)) = 4 → f_L_law_b332 xs Ls B (f_L_law_L23 xs Ls B n) v1 v2 v3 v4 Z I L) ∧ (¬ ((xs v4.toNatClampNeg) &&& (63 : Int32)) = 4 → ((((xs v4.toNatClampNeg) &&& (63 : Int32)) = 5 → f_L_law_b400 xs Ls B (f_L_law_L23 xs Ls B n) v1 v2 v3 v4 Z I L) ∧ (¬ ((xs v4.toNatClampNeg) &&& (63 : Int32)) = 5 → ((((xs v4.toNatClampNeg) &&& (63 : Int32)) = 6 → f_L_law_b449 xs Ls B (f_L_law_L23 xs Ls B n) v1 v2 v3 v4 Z I L) ∧ (¬ ((xs v4.toNatClampNeg) &&& (63 : Int32)) = 6 → ((((xs v4.toNatClampNeg) &&& (63 : Int32)) = 7 → f_L_law_b510 xs Ls B (f_L_law_L23 xs Ls B n) v1 v2 v3 v4 Z I L) ∧ (¬ ((xs v4.toNatClampNeg) &&& (63 : Int32)) = 7 → ((((xs v4.toNatClampNeg) &&& (63 : Int32)) = 8 → f_L_law_b575 xs Ls B (f_L_law_L23 xs Ls B n) v1 v2 v3 v4 Z I L) ∧ (¬ ((xs v4.toNatClampNeg) &&& (63 : Int32)) = 8 → ((((xs v4.toNatClampNeg) &&& (63 : Int32)) = 9 → f_L_law_b600 xs Ls B (f_L_law_L23 xs Ls B n) v1 v2 v3 v4 Z I L) ∧ (¬ ((xs v4.toNatClampNeg) &&& (63 : Int32)) = 9 → ((((xs v4.toNatClampNeg) &&& (63 : Int32)) = 10 → f_L_law_b661 xs Ls B (f_L_law_L23 xs Ls B n) v1 v2 v3 v4 Z I L) ∧ (¬ ((xs v4.toNatClampNeg) &&& (63 : Int32)) = 10 → ((((xs v4.toNatClampNeg) &&& (63 : Int32)) = 11 → f_L_law_b698 xs Ls B (f_L_law_L23 xs Ls B n) v1 v2 v3 v4 Z I L) ∧ (¬ ((xs v4.toNatClampNeg) &&& (63 : Int32)) = 11 → ((((xs v4.toNatClampNeg) &&& (63 : Int32)) = 12 → f_L_law_b738 xs Ls B (f_L_law_L23 xs Ls B n) v1 v2 v3 v4 Z I L) ∧ (¬ ((xs v4.toNatClampNeg) &&& (63 : Int32)) = 12 → ((((xs v4.toNatClampNeg) &&& (63 : Int32)) = 13 → f_L_law_b775 xs Ls B (f_L_law_L23 xs Ls B n) v1 v2 v3 v4 Z I L) ∧ (¬ ((xs v4.toNatClampNeg) &&& (63 : Int32)) = 13 → ((((xs v4.toNatClampNeg) &&& (63 : Int32)) = 14 → f_L_law_b812 xs Ls B (f_L_law_L23 xs Ls B n) v1 v2 v3 v4 Z I L) ∧ (¬ ((xs v4.toNatClampNeg) &&& (63 : Int32)) = 14 → ((((xs v4.toNatClampNeg) &&& (63 : Int32)) = 15 → f_L_law_b849 xs Ls B (f_L_law_L23 xs Ls B n) v1 v2 v3 v4 Z I L) ∧ (¬ ((xs v4.toNatClampNeg) &&& (63 : Int32)) = 15 → ((((xs v4.toNatClampNeg) &&& (63 : Int32)) = 16 → f_L_law_b874 xs Ls B (f_L_law_L23 xs Ls B n) v1 v2 v3 v4 Z I L) ∧ (¬ ((xs v4.toNatClampNeg) &&& (63 : Int32)) = 16 → ((((xs v4.toNatClampNeg) &&& (63 : Int32)) = 17 → f_L_law_b899 xs Ls B (f_L_law_L23 xs Ls B n) v1 v2 v3 v4 Z I L) ∧ (¬ ((xs v4.toNatClampNeg) &&& (63 : Int32)) = 17 → ((((xs v4.toNatClampNeg) &&& (63 : Int32)) = 18 → f_L_law_b924 xs Ls B (f_L_law_L23 xs Ls B n) v1 v2 v3 v4 Z I L) ∧ (¬ ((xs v4.toNatClampNeg) &&& (63 : Int32)) = 18 → ((((xs v4.toNatClampNeg) &&& (63 : Int32)) = 19 → f_L_law_b949 xs Ls B (f_L_law_L23 xs Ls B n) v1 v2 v3 v4 Z I L) ∧ (¬ ((xs v4.toNatClampNeg) &&& (63 : Int32)) = 19 → ((((xs v4.toNatClampNeg) &&& (63 : Int32)) = 20 → f_L_law_b986 xs Ls B (f_L_law_L23 xs Ls B n) v1 v2 v3 v4 Z I L) ∧ (¬ ((xs v4.toNatClampNeg) &&& (63 : Int32)) = 20 → ((((xs v4.toNatClampNeg) &&& (63 : Int32)) = 21 → f_L_law_b1035 xs Ls B (f_L_law_L23 xs Ls B n) v1 v2 v3 v4 Z I L) ∧ (¬ ((xs v4.toNatClampNeg) &&& (63 : Int32)) = 21 → ((((xs v4.toNatClampNeg) &&& (63 : Int32)) = 22 → f_L_law_b1072 xs Ls B (f_L_law_L23 xs Ls B n) v1 v2 v3 v4 Z I L) ∧ (¬ ((xs v4.toNatClampNeg) &&& (63 : Int32)) = 22 → ((((xs v4.toNatClampNeg) &&& (63 : Int32)) = 23 → f_L_law_b1109 xs Ls B (f_L_law_L23 xs Ls B n) v1 v2 v3 v4 Z I L) ∧ (¬ ((xs v4.toNatClampNeg) &&& (63 : Int32)) = 23 → ((((xs v4.toNatClampNeg) &&& (63 : Int32)) = 24 → f_L_law_b1134 xs Ls B (f_L_law_L23 xs Ls B n) v1 v2 v3 v4 Z I L) ∧ (¬ ((xs v4.toNatClampNeg) &&& (63 : Int32)) = 24 → ((((xs v4.toNatClampNeg) &&& (63 : Int32)) = 25 → f_L_law_b1159 xs Ls B (f_L_law_L23 xs Ls B n) v1 v2 v3 v4 Z I L) ∧ (¬ ((xs v4.toNatClampNeg) &&& (63 : Int32)) = 25 → ((((xs v4.toNatClampNeg) &&& (63 : Int32)) = 26 → f_L_law_b1172 xs Ls B (f_L_law_L23 xs Ls B n) v1 v2 v3 v4 Z I L) ∧ (¬ ((xs v4.toNatClampNeg) &&& (63 : Int32)) = 26 → ((((xs v4.toNatClampNeg) &&& (63 : Int32)) = 27 → f_L_law_b1197 xs Ls B (f_L_law_L23 xs Ls B n) v1 v2 v3 v4 Z I L) ∧ (¬ ((xs v4.toNatClampNeg) &&& (63 : Int32)) = 27 → ((((xs v4.toNatClampNeg) &&& (63 : Int32)) = 28 → f_L_law_b1222 xs Ls B (f_L_law_L23 xs Ls B n) v1 v2 v3 v4 Z I L) ∧ (¬ ((xs v4.toNatClampNeg) &&& (63 : Int32)) = 28 → ((((xs v4.toNatClampNeg) &&& (63 : Int32)) = 29 → f_L_law_b1247 xs Ls B (f_L_law_L23 xs Ls B n) v1 v2 v3 v4 Z I L) ∧ (¬ ((xs v4.toNatClampNeg) &&& (63 : Int32)) = 29 → ((((xs v4.toNatClampNeg) &&& (63 : Int32)) = 30 → f_L_law_b1272 xs Ls B (f_L_law_L23 xs Ls B n) v1 v2 v3 v4 Z I L) ∧ (¬ ((xs v4.toNatClampNeg) &&& (63 : Int32)) = 30 → ((((xs v4.toNatClampNeg) &&& (63 : Int32)) = 31 → f_L_law_b1285 xs Ls B (f_L_law_L23 xs Ls B n) v1 v2 v3 v4 Z I L) ∧ (¬ ((xs v4.toNatClampNeg) &&& (63 : Int32)) = 31 → ((((xs v4.toNatClampNeg) &&& (63 : Int32)) = 32 → f_L_law_b1310 xs Ls B (f_L_law_L23 xs Ls B n) v1 v2 v3 v4 Z I L) ∧ (¬ ((xs v4.toNatClampNeg) &&& (63 : Int32)) = 32 → ((((xs v4.toNatClampNeg) &&& (63 : Int32)) = 33 → f_L_law_b1347 xs Ls B (f_L_law_L23 xs Ls B n) v1 v2 v3 v4 Z I L) ∧ (¬ ((xs v4.toNatClampNeg) &&& (63 : Int32)) = 33 → ((((xs v4.toNatClampNeg) &&& (63 : Int32)) = 34 → f_L_law_b1372 xs Ls B (f_L_law_L23 xs Ls B n) v1 v2 v3 v4 Z I L) ∧ (¬ ((xs v4.toNatClampNeg) &&& (63 : Int32)) = 34 → ((((xs v4.toNatClampNeg) &&& (63 : Int32)) = 35 → f_L_law_b1397 xs Ls B (f_L_law_L23 xs Ls B n) v1 v2 v3 v4 Z I L) ∧ (¬ ((xs v4.toNatClampNeg) &&& (63 : Int32)) = 35 → ((((xs v4.toNatClampNeg) &&& (63 : Int32)) = 36 → f_L_law_b1434 xs Ls B (f_L_law_L23 xs Ls B n) v1 v2 v3 v4 Z I L) ∧ (¬ ((xs v4.toNatClampNeg) &&& (63 : Int32)) = 36 → ((((xs v4.toNatClampNeg) &&& (63 : Int32)) = 37 → f_L_law_b1507 xs Ls B (f_L_law_L23 xs Ls B n) v1 v2 v3 v4 Z I L) ∧ (¬ ((xs v4.toNatClampNeg) &&& (63 : Int32)) = 37 → ((((xs v4.toNatClampNeg) &&& (63 : Int32)) = 38 → f_L_law_b1544 xs Ls B (f_L_law_L23 xs Ls B n) v1 v2 v3 v4 Z I L) ∧ (¬ ((xs v4.toNatClampNeg) &&& (63 : Int32)) = 38 → ((((xs v4.toNatClampNeg) &&& (63 : Int32)) = 39 → f_L_law_b1557 xs Ls B (f_L_law_L23 xs Ls B n) v1 v2 v3 v4 Z I L) ∧ (¬ ((xs v4.toNatClampNeg) &&& (63 : Int32)) = 39 → ((((xs v4.toNatClampNeg) &&& (63 : Int32)) = 40 → f_L_law_b1582 xs Ls B (f_L_law_L23 xs Ls B n) v1 v2 v3 v4 Z I L) ∧ (¬ ((xs v4.toNatClampNeg) &&& (63 : Int32)) = 40 → ((((xs v4.toNatClampNeg) &&& (63 : Int32)) = 41 → f_L_law_b1619 xs Ls B (f_L_law_L23 xs Ls B n) v1 v2 v3 v4 Z I L) ∧ (¬ ((xs v4.toNatClampNeg) &&& (63 : Int32)) = 41 → ((((xs v4.toNatClampNeg) &&& (63 : Int32)) = 42 → f_L_law_b1644 xs Ls B (f_L_law_L23 xs Ls B n) v1 v2 v3 v4 Z I L) ∧ (¬ ((xs v4.toNatClampNeg) &&& (63 : Int32)) = 42 → ((((xs v4.toNatClampNeg) &&& (63 : Int32)) = 43 → f_L_law_b1657 xs Ls B (f_L_law_L23 xs Ls B n) v1 v2 v3 v4 Z I L) ∧ (¬ ((xs v4.toNatClampNeg) &&& (63 : Int32)) = 43 → ((((xs v4.toNatClampNeg) &&& (63 : Int32)) = 44 → f_L_law_b1682 xs Ls B (f_L_law_L23 xs Ls B n) v1 v2 v3 v4 Z I L) ∧ (¬ ((xs v4.toNatClampNeg) &&& (63 : Int32)) = 44 → ((((xs v4.toNatClampNeg) &&& (63 : Int32)) = 45 → f_L_law_b1707 xs Ls B (f_L_law_L23 xs Ls B n) v1 v2 v3 v4 Z I L) ∧ (¬ ((xs v4.toNatClampNeg) &&& (63 : Int32)) = 45 → ((((xs v4.toNatClampNeg) &&& (63 : Int32)) = 46 → f_L_law_b1732 xs Ls B (f_L_law_L23 xs Ls B n) v1 v2 v3 v4 Z I L) ∧ (¬ ((xs v4.toNatClampNeg) &&& (63 : Int32)) = 46 → f_L_law_b1760 xs Ls B (f_L_law_L23 xs Ls B n) v1 v2 v3 v4 Z I L)))))))))))))))))))))))))))))))))))))))))))))))))))))))))))))))))))))))))))))))))))))))))))))))))
set_option maxHeartbeats 4000000 in
set_option maxRecDepth 100000 in
theorem m_L_law_L23 {G : jG} {Z0 : jZ} {xs : Nat → Int32} {Ls b sa sb : Nat} {B : Nat × Nat} {Z5 : jZ} (E : jE G cL_law RL (Cond.arrayClass .byte :: jT) 8 (some .boolean) room_1 jRL) (hX : va_X b Ls xs (gS G) (gS G).heap ∧ b < (gS G).heap.size ∧ ¬ gA G b) (hV : jV (gA G) (gS G) (gS G).heap) (hU : jU sa sb (gA G) (gS G) (gS G).heap) (hl0 : (gL G).stackTraces = false) : ∀ (n k9 n9 : Nat) (v1 : Nat) (v2 : Nat) (v3 : Nat) (v4 : Int32) (Z : jZ) (I : jI) (L : jL), k9 + 27 * n + (B.1 - jcz Z5) ≤ 601024 → n9 + 600 * n + (B.2 - jsz Z5) ≤ 7293034 → SH Z → jext Z0 Z → jle Z5 Z → jin B Z → jk Z v1 11 → jk Z v2 12 → jk Z v3 15 → f_L_law_L23 xs Ls B n v1 v2 v3 v4 Z I L → jJ G 8 23 [(0, .ref b), (1, .ref v1), (2, .ref v2), (3, .ref v3), (4, .int v4)] [] Z I L (k9 + (jcz Z - jcz Z5) + 0) (n9 + (jsz Z - jsz Z5) + 0) := by
  intro n
  induction n with
  | zero => intro k9 n9 v1 v2 v3 v4 Z I L _ _ _ _ _ _ _ _ _ h; exact h.elim
  | succ n ih =>
    intro k9 n9 v1 v2 v3 v4 Z I L q1 q2 hZ hx hc hb kv1 kv2 kv3 h
    have hb9 : k9 + 27 + (B.1 - jcz Z5) ≤ 601024 := by omega
    have hn9 : n9 + 600 + (B.2 - jsz Z5) ≤ 7293034 := by omega
    have hK23 : ∀ (v1 : Nat) (v2 : Nat) (v3 : Nat) (v4 : Int32) (Z : jZ) (I : jI) (L : jL), SH Z → jext Z0 Z → jle Z5 Z → jin B Z → jk Z v1 11 → jk Z v2 12 → jk Z v3 15 → f_L_law_L23 xs Ls B n v1 v2 v3 v4 Z I L → jJ G 8 23 [(0, .ref b), (1, .ref v1), (2, .ref v2), (3, .ref v3), (4, .int v4)] [] Z I L (k9 + (jcz Z - jcz Z5) + 27) (n9 + (jsz Z - jsz Z5) + 600) := fun xv1 xv2 xv3 xv4 Z I L a1 a2 a3 a4 av1 av2 av3 h9 => j_kn (by omega) (by omega) (ih (k9 + 27) (n9 + 600) xv1 xv2 xv3 xv4 Z I L (by omega) (by omega) a1 a2 a3 a4 av1 av2 av3 h9)
    have h : ((((Int32.ofNat Ls) - (6 : Int32)) < v4 → True) ∧ (¬ (((Int32.ofNat Ls) - (6 : Int32)) < v4) → (vp_in v4 Ls ∧ ((((xs v4.toNatClampNeg) &&& (63 : Int32)) = 0 → f_L_law_b244 xs Ls B (f_L_law_L23 xs Ls B n) v1 v2 v3 v4 Z I L) ∧ (¬ ((xs v4.toNatClampNeg) &&& (63 : Int32)) = 0 → ((((xs v4.toNatClampNeg) &&& (63 : Int32)) = 1 → f_L_law_b269 xs Ls B (f_L_law_L23 xs Ls B n) v1 v2 v3 v4 Z I L) ∧ (¬ ((xs v4.toNatClampNeg) &&& (63 : Int32)) = 1 → ((((xs v4.toNatClampNeg) &&& (63 : Int32)) = 2 → f_L_law_b294 xs Ls B (f_L_law_L23 xs Ls B n) v1 v2 v3 v4 Z I L) ∧ (¬ ((xs v4.toNatClampNeg) &&& (63 : Int32)) = 2 → ((((xs v4.toNatClampNeg) &&& (63 : Int32)) = 3 → f_L_law_b307 xs Ls B (f_L_law_L23 xs Ls B n) v1 v2 v3 v4 Z I L) ∧ (¬ ((xs v4.toNatClampNeg) &&& (63 : Int32)) = 3 → ((((xs v4.toNatClampNeg) &&& (63 : Int32)) = 4 → f_L_law_b332 xs Ls B (f_L_law_L23 xs Ls B n) v1 v2 v3 v4 Z I L) ∧ (¬ ((xs v4.toNatClampNeg) &&& (63 : Int32)) = 4 → ((((xs v4.toNatClampNeg) &&& (63 : Int32)) = 5 → f_L_law_b400 xs Ls B (f_L_law_L23 xs Ls B n) v1 v2 v3 v4 Z I L) ∧ (¬ ((xs v4.toNatClampNeg) &&& (63 : Int32)) = 5 → ((((xs v4.toNatClampNeg) &&& (63 : Int32)) = 6 → f_L_law_b449 xs Ls B (f_L_law_L23 xs Ls B n) v1 v2 v3 v4 Z I L) ∧ (¬ ((xs v4.toNatClampNeg) &&& (63 : Int32)) = 6 → ((((xs v4.toNatClampNeg) &&& (63 : Int32)) = 7 → f_L_law_b510 xs Ls B (f_L_law_L23 xs Ls B n) v1 v2 v3 v4 Z I L) ∧ (¬ ((xs v4.toNatClampNeg) &&& (63 : Int32)) = 7 → ((((xs v4.toNatClampNeg) &&& (63 : Int32)) = 8 → f_L_law_b575 xs Ls B (f_L_law_L23 xs Ls B n) v1 v2 v3 v4 Z I L) ∧ (¬ ((xs v4.toNatClampNeg) &&& (63 : Int32)) = 8 → ((((xs v4.toNatClampNeg) &&& (63 : Int32)) = 9 → f_L_law_b600 xs Ls B (f_L_law_L23 xs Ls B n) v1 v2 v3 v4 Z I L) ∧ (¬ ((xs v4.toNatClampNeg) &&& (63 : Int32)) = 9 → ((((xs v4.toNatClampNeg) &&& (63 : Int32)) = 10 → f_L_law_b661 xs Ls B (f_L_law_L23 xs Ls B n) v1 v2 v3 v4 Z I L) ∧ (¬ ((xs v4.toNatClampNeg) &&& (63 : Int32)) = 10 → ((((xs v4.toNatClampNeg) &&& (63 : Int32)) = 11 → f_L_law_b698 xs Ls B (f_L_law_L23 xs Ls B n) v1 v2 v3 v4 Z I L) ∧ (¬ ((xs v4.toNatClampNeg) &&& (63 : Int32)) = 11 → ((((xs v4.toNatClampNeg) &&& (63 : Int32)) = 12 → f_L_law_b738 xs Ls B (f_L_law_L23 xs Ls B n) v1 v2 v3 v4 Z I L) ∧ (¬ ((xs v4.toNatClampNeg) &&& (63 : Int32)) = 12 → ((((xs v4.toNatClampNeg) &&& (63 : Int32)) = 13 → f_L_law_b775 xs Ls B (f_L_law_L23 xs Ls B n) v1 v2 v3 v4 Z I L) ∧ (¬ ((xs v4.toNatClampNeg) &&& (63 : Int32)) = 13 → ((((xs v4.toNatClampNeg) &&& (63 : Int32)) = 14 → f_L_law_b812 xs Ls B (f_L_law_L23 xs Ls B n) v1 v2 v3 v4 Z I L) ∧ (¬ ((xs v4.toNatClampNeg) &&& (63 : Int32)) = 14 → ((((xs v4.toNatClampNeg) &&& (63 : Int32)) = 15 → f_L_law_b849 xs Ls B (f_L_law_L23 xs Ls B n) v1 v2 v3 v4 Z I L) ∧ (¬ ((xs v4.toNatClampNeg) &&& (63 : Int32)) = 15 → ((((xs v4.toNatClampNeg) &&& (63 : Int32)) = 16 → f_L_law_b874 xs Ls B (f_L_law_L23 xs Ls B n) v1 v2 v3 v4 Z I L) ∧ (¬ ((xs v4.toNatClampNeg) &&& (63 : Int32)) = 16 → ((((xs v4.toNatClampNeg) &&& (63 : Int32)) = 17 → f_L_law_b899 xs Ls B (f_L_law_L23 xs Ls B n) v1 v2 v3 v4 Z I L) ∧ (¬ ((xs v4.toNatClampNeg) &&& (63 : Int32)) = 17 → ((((xs v4.toNatClampNeg) &&& (63 : Int32)) = 18 → f_L_law_b924 xs Ls B (f_L_law_L23 xs Ls B n) v1 v2 v3 v4 Z I L) ∧ (¬ ((xs v4.toNatClampNeg) &&& (63 : Int32)) = 18 → ((((xs v4.toNatClampNeg) &&& (63 : Int32)) = 19 → f_L_law_b949 xs Ls B (f_L_law_L23 xs Ls B n) v1 v2 v3 v4 Z I L) ∧ (¬ ((xs v4.toNatClampNeg) &&& (63 : Int32)) = 19 → ((((xs v4.toNatClampNeg) &&& (63 : Int32)) = 20 → f_L_law_b986 xs Ls B (f_L_law_L23 xs Ls B n) v1 v2 v3 v4 Z I L) ∧ (¬ ((xs v4.toNatClampNeg) &&& (63 : Int32)) = 20 → ((((xs v4.toNatClampNeg) &&& (63 : Int32)) = 21 → f_L_law_b1035 xs Ls B (f_L_law_L23 xs Ls B n) v1 v2 v3 v4 Z I L) ∧ (¬ ((xs v4.toNatClampNeg) &&& (63 : Int32)) = 21 → ((((xs v4.toNatClampNeg) &&& (63 : Int32)) = 22 → f_L_law_b1072 xs Ls B (f_L_law_L23 xs Ls B n) v1 v2 v3 v4 Z I L) ∧ (¬ ((xs v4.toNatClampNeg) &&& (63 : Int32)) = 22 → ((((xs v4.toNatClampNeg) &&& (63 : Int32)) = 23 → f_L_law_b1109 xs Ls B (f_L_law_L23 xs Ls B n) v1 v2 v3 v4 Z I L) ∧ (¬ ((xs v4.toNatClampNeg) &&& (63 : Int32)) = 23 → ((((xs v4.toNatClampNeg) &&& (63 : Int32)) = 24 → f_L_law_b1134 xs Ls B (f_L_law_L23 xs Ls B n) v1 v2 v3 v4 Z I L) ∧ (¬ ((xs v4.toNatClampNeg) &&& (63 : Int32)) = 24 → ((((xs v4.toNatClampNeg) &&& (63 : Int32)) = 25 → f_L_law_b1159 xs Ls B (f_L_law_L23 xs Ls B n) v1 v2 v3 v4 Z I L) ∧ (¬ ((xs v4.toNatClampNeg) &&& (63 : Int32)) = 25 → ((((xs v4.toNatClampNeg) &&& (63 : Int32)) = 26 → f_L_law_b1172 xs Ls B (f_L_law_L23 xs Ls B n) v1 v2 v3 v4 Z I L) ∧ (¬ ((xs v4.toNatClampNeg) &&& (63 : Int32)) = 26 → ((((xs v4.toNatClampNeg) &&& (63 : Int32)) = 27 → f_L_law_b1197 xs Ls B (f_L_law_L23 xs Ls B n) v1 v2 v3 v4 Z I L) ∧ (¬ ((xs v4.toNatClampNeg) &&& (63 : Int32)) = 27 → ((((xs v4.toNatClampNeg) &&& (63 : Int32)) = 28 → f_L_law_b1222 xs Ls B (f_L_law_L23 xs Ls B n) v1 v2 v3 v4 Z I L) ∧ (¬ ((xs v4.toNatClampNeg) &&& (63 : Int32)) = 28 → ((((xs v4.toNatClampNeg) &&& (63 : Int32)) = 29 → f_L_law_b1247 xs Ls B (f_L_law_L23 xs Ls B n) v1 v2 v3 v4 Z I L) ∧ (¬ ((xs v4.toNatClampNeg) &&& (63 : Int32)) = 29 → ((((xs v4.toNatClampNeg) &&& (63 : Int32)) = 30 → f_L_law_b1272 xs Ls B (f_L_law_L23 xs Ls B n) v1 v2 v3 v4 Z I L) ∧ (¬ ((xs v4.toNatClampNeg) &&& (63 : Int32)) = 30 → ((((xs v4.toNatClampNeg) &&& (63 : Int32)) = 31 → f_L_law_b1285 xs Ls B (f_L_law_L23 xs Ls B n) v1 v2 v3 v4 Z I L) ∧ (¬ ((xs v4.toNatClampNeg) &&& (63 : Int32)) = 31 → ((((xs v4.toNatClampNeg) &&& (63 : Int32)) = 32 → f_L_law_b1310 xs Ls B (f_L_law_L23 xs Ls B n) v1 v2 v3 v4 Z I L) ∧ (¬ ((xs v4.toNatClampNeg) &&& (63 : Int32)) = 32 → ((((xs v4.toNatClampNeg) &&& (63 : Int32)) = 33 → f_L_law_b1347 xs Ls B (f_L_law_L23 xs Ls B n) v1 v2 v3 v4 Z I L) ∧ (¬ ((xs v4.toNatClampNeg) &&& (63 : Int32)) = 33 → ((((xs v4.toNatClampNeg) &&& (63 : Int32)) = 34 → f_L_law_b1372 xs Ls B (f_L_law_L23 xs Ls B n) v1 v2 v3 v4 Z I L) ∧ (¬ ((xs v4.toNatClampNeg) &&& (63 : Int32)) = 34 → ((((xs v4.toNatClampNeg) &&& (63 : Int32)) = 35 → f_L_law_b1397 xs Ls B (f_L_law_L23 xs Ls B n) v1 v2 v3 v4 Z I L) ∧ (¬ ((xs v4.toNatClampNeg) &&& (63 : Int32)) = 35 → ((((xs v4.toNatClampNeg) &&& (63 : Int32)) = 36 → f_L_law_b1434 xs Ls B (f_L_law_L23 xs Ls B n) v1 v2 v3 v4 Z I L) ∧ (¬ ((xs v4.toNatClampNeg) &&& (63 : Int32)) = 36 → ((((xs v4.toNatClampNeg) &&& (63 : Int32)) = 37 → f_L_law_b1507 xs Ls B (f_L_law_L23 xs Ls B n) v1 v2 v3 v4 Z I L) ∧ (¬ ((xs v4.toNatClampNeg) &&& (63 : Int32)) = 37 → ((((xs v4.toNatClampNeg) &&& (63 : Int32)) = 38 → f_L_law_b1544 xs Ls B (f_L_law_L23 xs Ls B n) v1 v2 v3 v4 Z I L) ∧ (¬ ((xs v4.toNatClampNeg) &&& (63 : Int32)) = 38 → ((((xs v4.toNatClampNeg) &&& (63 : Int32)) = 39 → f_L_law_b1557 xs Ls B (f_L_law_L23 xs Ls B n) v1 v2 v3 v4 Z I L) ∧ (¬ ((xs v4.toNatClampNeg) &&& (63 : Int32)) = 39 → ((((xs v4.toNatClampNeg) &&& (63 : Int32)) = 40 → f_L_law_b1582 xs Ls B (f_L_law_L23 xs Ls B n) v1 v2 v3 v4 Z I L) ∧ (¬ ((xs v4.toNatClampNeg) &&& (63 : Int32)) = 40 → ((((xs v4.toNatClampNeg) &&& (63 : Int32)) = 41 → f_L_law_b1619 xs Ls B (f_L_law_L23 xs Ls B n) v1 v2 v3 v4 Z I L) ∧ (¬ ((xs v4.toNatClampNeg) &&& (63 : Int32)) = 41 → ((((xs v4.toNatClampNeg) &&& (63 : Int32)) = 42 → f_L_law_b1644 xs Ls B (f_L_law_L23 xs Ls B n) v1 v2 v3 v4 Z I L) ∧ (¬ ((xs v4.toNatClampNeg) &&& (63 : Int32)) = 42 → ((((xs v4.toNatClampNeg) &&& (63 : Int32)) = 43 → f_L_law_b1657 xs Ls B (f_L_law_L23 xs Ls B n) v1 v2 v3 v4 Z I L) ∧ (¬ ((xs v4.toNatClampNeg) &&& (63 : Int32)) = 43 → ((((xs v4.toNatClampNeg) &&& (63 : Int32)) = 44 → f_L_law_b1682 xs Ls B (f_L_law_L23 xs Ls B n) v1 v2 v3 v4 Z I L) ∧ (¬ ((xs v4.toNatClampNeg) &&& (63 : Int32)) = 44 → ((((xs v4.toNatClampNeg) &&& (63 : Int32)) = 45 → f_L_law_b1707 xs Ls B (f_L_law_L23 xs Ls B n) v1 v2 v3 v4 Z I L) ∧ (¬ ((xs v4.toNatClampNeg) &&& (63 : Int32)) = 45 → ((((xs v4.toNatClampNeg) &&& (63 : Int32)) = 46 → f_L_law_b1732 xs Ls B (f_L_law_L23 xs Ls B n) v1 v2 v3 v4 Z I L) ∧ (¬ ((xs v4.toNatClampNeg) &&& (63 : Int32)) = 46 → f_L_law_b1760 xs Ls B (f_L_law_L23 xs Ls B n) v1 v2 v3 v4 Z I L))))))))))))))))))))))))))))))))))))))))))))))))))))))))))))))))))))))))))))))))))))))))))))))))) := h
    generalize f_L_law_L23 xs Ls B n = K23 at hK23 h
    refine j_iload E dL_law_23 4 rfl ?_
    refine j_aload_n E dL_law_25 0 rfl ?_
    refine j_slen E hX.1 hX.2.1 hX.2.2 dL_law_26 ?_
    refine j_bipush E (v := 6) dL_law_27 (by decide) ?_
    refine j_isub E dL_law_29 ?_
    refine j_icmp_gt E 1766 dL_law_30 (by decide) (fun c942 => ?_) (fun c942 => ?_)
    · have h := h.1 c942
      refine j_iconst E (v := 1) dL_law_1766 (by decide) ?_
      exact j_zreturn E (Or.inr rfl) rfl (by show k9 + (jcz Z - jcz Z5) + 0 ≤ 601024; have := hb.1; omega) (by show n9 + (jsz Z - jsz Z5) + 0 ≤ 7293034; have := hb.2; omega) dL_law_1767
    · have h := h.2 c942
      refine j_aload_n E dL_law_33 0 rfl ?_
      refine j_iload E dL_law_34 4 rfl ?_
      obtain ⟨o943, h⟩ := h
      refine j_sld E hX.1 hX.2.1 hX.2.2 o943 dL_law_36 ?_
      refine j_bipush E (v := 63) dL_law_37 (by decide) ?_
      refine j_iand E dL_law_39 ?_
      by_cases c944 : ((xs v4.toNatClampNeg) &&& (63 : Int32)) = 0
      · have h := h.1 c944
        refine j_tableIn E (204) 244 dL_law_40 (by rw [c944]; decide) (by rw [c944]; decide) (by rw [c944]; rfl) (by decide) ?_
        refine j_sub [0, 1, 2, 3, 4] rfl ?_
        exact m_L_law_b244 E hX hV hU hl0 hb9 hn9 K23 hK23 v1 v2 v3 v4 Z I L hZ hx hc hb kv1 kv2 kv3 h
      · have h := h.2 c944
        by_cases c945 : ((xs v4.toNatClampNeg) &&& (63 : Int32)) = 1
        · have h := h.1 c945
          refine j_tableIn E (229) 269 dL_law_40 (by rw [c945]; decide) (by rw [c945]; decide) (by rw [c945]; rfl) (by decide) ?_
          refine j_sub [0, 1, 2, 3, 4] rfl ?_
          exact m_L_law_b269 E hX hV hU hl0 hb9 hn9 K23 hK23 v1 v2 v3 v4 Z I L hZ hx hc hb kv1 kv2 kv3 h
        · have h := h.2 c945
          by_cases c946 : ((xs v4.toNatClampNeg) &&& (63 : Int32)) = 2
          · have h := h.1 c946
            refine j_tableIn E (254) 294 dL_law_40 (by rw [c946]; decide) (by rw [c946]; decide) (by rw [c946]; rfl) (by decide) ?_
            refine j_sub [0, 1, 2, 3, 4] rfl ?_
            exact m_L_law_b294 E hX hV hU hl0 hb9 hn9 K23 hK23 v1 v2 v3 v4 Z I L hZ hx hc hb kv1 kv2 kv3 h
          · have h := h.2 c946
            by_cases c947 : ((xs v4.toNatClampNeg) &&& (63 : Int32)) = 3
            · have h := h.1 c947
              refine j_tableIn E (267) 307 dL_law_40 (by rw [c947]; decide) (by rw [c947]; decide) (by rw [c947]; rfl) (by decide) ?_
              refine j_sub [0, 1, 2, 3, 4] rfl ?_
              exact m_L_law_b307 E hX hV hU hl0 hb9 hn9 K23 hK23 v1 v2 v3 v4 Z I L hZ hx hc hb kv1 kv2 kv3 h
            · have h := h.2 c947
              by_cases c948 : ((xs v4.toNatClampNeg) &&& (63 : Int32)) = 4
              · have h := h.1 c948
                refine j_tableIn E (292) 332 dL_law_40 (by rw [c948]; decide) (by rw [c948]; decide) (by rw [c948]; rfl) (by decide) ?_
                refine j_sub [0, 1, 2, 3, 4] rfl ?_
                exact m_L_law_b332 E hX hV hU hl0 hb9 hn9 K23 hK23 v1 v2 v3 v4 Z I L hZ hx hc hb kv1 kv2 kv3 h
              · have h := h.2 c948
                by_cases c949 : ((xs v4.toNatClampNeg) &&& (63 : Int32)) = 5
                · have h := h.1 c949
                  refine j_tableIn E (360) 400 dL_law_40 (by rw [c949]; decide) (by rw [c949]; decide) (by rw [c949]; rfl) (by decide) ?_
                  refine j_sub [0, 1, 2, 3, 4] rfl ?_
                  exact m_L_law_b400 E hX hV hU hl0 hb9 hn9 K23 hK23 v1 v2 v3 v4 Z I L hZ hx hc hb kv1 kv2 kv3 h
                · have h := h.2 c949
                  by_cases c950 : ((xs v4.toNatClampNeg) &&& (63 : Int32)) = 6
                  · have h := h.1 c950
                    refine j_tableIn E (409) 449 dL_law_40 (by rw [c950]; decide) (by rw [c950]; decide) (by rw [c950]; rfl) (by decide) ?_
                    refine j_sub [0, 1, 2, 3, 4] rfl ?_
                    exact m_L_law_b449 E hX hV hU hl0 hb9 hn9 K23 hK23 v1 v2 v3 v4 Z I L hZ hx hc hb kv1 kv2 kv3 h
                  · have h := h.2 c950
                    by_cases c951 : ((xs v4.toNatClampNeg) &&& (63 : Int32)) = 7
                    · have h := h.1 c951
                      refine j_tableIn E (470) 510 dL_law_40 (by rw [c951]; decide) (by rw [c951]; decide) (by rw [c951]; rfl) (by decide) ?_
                      refine j_sub [0, 1, 2, 3, 4] rfl ?_
                      exact m_L_law_b510 E hX hV hU hl0 hb9 hn9 K23 hK23 v1 v2 v3 v4 Z I L hZ hx hc hb kv1 kv2 kv3 h
                    · have h := h.2 c951
                      by_cases c952 : ((xs v4.toNatClampNeg) &&& (63 : Int32)) = 8
                      · have h := h.1 c952
                        refine j_tableIn E (535) 575 dL_law_40 (by rw [c952]; decide) (by rw [c952]; decide) (by rw [c952]; rfl) (by decide) ?_
                        refine j_sub [0, 1, 2, 3, 4] rfl ?_
                        exact m_L_law_b575 E hX hV hU hl0 hb9 hn9 K23 hK23 v1 v2 v3 v4 Z I L hZ hx hc hb kv1 kv2 kv3 h
                      · have h := h.2 c952
                        by_cases c953 : ((xs v4.toNatClampNeg) &&& (63 : Int32)) = 9
                        · have h := h.1 c953
                          refine j_tableIn E (560) 600 dL_law_40 (by rw [c953]; decide) (by rw [c953]; decide) (by rw [c953]; rfl) (by decide) ?_
                          refine j_sub [0, 1, 2, 3, 4] rfl ?_
                          exact m_L_law_b600 E hX hV hU hl0 hb9 hn9 K23 hK23 v1 v2 v3 v4 Z I L hZ hx hc hb kv1 kv2 kv3 h
                        · have h := h.2 c953
                          by_cases c954 : ((xs v4.toNatClampNeg) &&& (63 : Int32)) = 10
                          · have h := h.1 c954
                            refine j_tableIn E (621) 661 dL_law_40 (by rw [c954]; decide) (by rw [c954]; decide) (by rw [c954]; rfl) (by decide) ?_
                            refine j_sub [0, 1, 2, 3, 4] rfl ?_
                            exact m_L_law_b661 E hX hV hU hl0 hb9 hn9 K23 hK23 v1 v2 v3 v4 Z I L hZ hx hc hb kv1 kv2 kv3 h
                          · have h := h.2 c954
                            by_cases c955 : ((xs v4.toNatClampNeg) &&& (63 : Int32)) = 11
                            · have h := h.1 c955
                              refine j_tableIn E (658) 698 dL_law_40 (by rw [c955]; decide) (by rw [c955]; decide) (by rw [c955]; rfl) (by decide) ?_
                              refine j_sub [0, 1, 2, 3, 4] rfl ?_
                              exact m_L_law_b698 E hX hV hU hl0 hb9 hn9 K23 hK23 v1 v2 v3 v4 Z I L hZ hx hc hb kv1 kv2 kv3 h
                            · have h := h.2 c955
                              by_cases c956 : ((xs v4.toNatClampNeg) &&& (63 : Int32)) = 12
                              · have h := h.1 c956
                                refine j_tableIn E (698) 738 dL_law_40 (by rw [c956]; decide) (by rw [c956]; decide) (by rw [c956]; rfl) (by decide) ?_
                                refine j_sub [0, 1, 2, 3, 4] rfl ?_
                                exact m_L_law_b738 E hX hV hU hl0 hb9 hn9 K23 hK23 v1 v2 v3 v4 Z I L hZ hx hc hb kv1 kv2 kv3 h
                              · have h := h.2 c956
                                by_cases c957 : ((xs v4.toNatClampNeg) &&& (63 : Int32)) = 13
                                · have h := h.1 c957
                                  refine j_tableIn E (735) 775 dL_law_40 (by rw [c957]; decide) (by rw [c957]; decide) (by rw [c957]; rfl) (by decide) ?_
                                  refine j_sub [0, 1, 2, 3, 4] rfl ?_
                                  exact m_L_law_b775 E hX hV hU hl0 hb9 hn9 K23 hK23 v1 v2 v3 v4 Z I L hZ hx hc hb kv1 kv2 kv3 h
                                · have h := h.2 c957
                                  by_cases c958 : ((xs v4.toNatClampNeg) &&& (63 : Int32)) = 14
                                  · have h := h.1 c958
                                    refine j_tableIn E (772) 812 dL_law_40 (by rw [c958]; decide) (by rw [c958]; decide) (by rw [c958]; rfl) (by decide) ?_
                                    refine j_sub [0, 1, 2, 3, 4] rfl ?_
                                    exact m_L_law_b812 E hX hV hU hl0 hb9 hn9 K23 hK23 v1 v2 v3 v4 Z I L hZ hx hc hb kv1 kv2 kv3 h
                                  · have h := h.2 c958
                                    by_cases c959 : ((xs v4.toNatClampNeg) &&& (63 : Int32)) = 15
                                    · have h := h.1 c959
                                      refine j_tableIn E (809) 849 dL_law_40 (by rw [c959]; decide) (by rw [c959]; decide) (by rw [c959]; rfl) (by decide) ?_
                                      refine j_sub [0, 1, 2, 3, 4] rfl ?_
                                      exact m_L_law_b849 E hX hV hU hl0 hb9 hn9 K23 hK23 v1 v2 v3 v4 Z I L hZ hx hc hb kv1 kv2 kv3 h
                                    · have h := h.2 c959
                                      by_cases c960 : ((xs v4.toNatClampNeg) &&& (63 : Int32)) = 16
                                      · have h := h.1 c960
                                        refine j_tableIn E (834) 874 dL_law_40 (by rw [c960]; decide) (by rw [c960]; decide) (by rw [c960]; rfl) (by decide) ?_
                                        refine j_sub [0, 1, 2, 3, 4] rfl ?_
                                        exact m_L_law_b874 E hX hV hU hl0 hb9 hn9 K23 hK23 v1 v2 v3 v4 Z I L hZ hx hc hb kv1 kv2 kv3 h
                                      · have h := h.2 c960
                                        by_cases c961 : ((xs v4.toNatClampNeg) &&& (63 : Int32)) = 17
                                        · have h := h.1 c961
                                          refine j_tableIn E (859) 899 dL_law_40 (by rw [c961]; decide) (by rw [c961]; decide) (by rw [c961]; rfl) (by decide) ?_
                                          refine j_sub [0, 1, 2, 3, 4] rfl ?_
                                          exact m_L_law_b899 E hX hV hU hl0 hb9 hn9 K23 hK23 v1 v2 v3 v4 Z I L hZ hx hc hb kv1 kv2 kv3 h
                                        · have h := h.2 c961
                                          by_cases c962 : ((xs v4.toNatClampNeg) &&& (63 : Int32)) = 18
                                          · have h := h.1 c962
                                            refine j_tableIn E (884) 924 dL_law_40 (by rw [c962]; decide) (by rw [c962]; decide) (by rw [c962]; rfl) (by decide) ?_
                                            refine j_sub [0, 1, 2, 3, 4] rfl ?_
                                            exact m_L_law_b924 E hX hV hU hl0 hb9 hn9 K23 hK23 v1 v2 v3 v4 Z I L hZ hx hc hb kv1 kv2 kv3 h
                                          · have h := h.2 c962
                                            by_cases c963 : ((xs v4.toNatClampNeg) &&& (63 : Int32)) = 19
                                            · have h := h.1 c963
                                              refine j_tableIn E (909) 949 dL_law_40 (by rw [c963]; decide) (by rw [c963]; decide) (by rw [c963]; rfl) (by decide) ?_
                                              refine j_sub [0, 1, 2, 3, 4] rfl ?_
                                              exact m_L_law_b949 E hX hV hU hl0 hb9 hn9 K23 hK23 v1 v2 v3 v4 Z I L hZ hx hc hb kv1 kv2 kv3 h
                                            · have h := h.2 c963
                                              by_cases c964 : ((xs v4.toNatClampNeg) &&& (63 : Int32)) = 20
                                              · have h := h.1 c964
                                                refine j_tableIn E (946) 986 dL_law_40 (by rw [c964]; decide) (by rw [c964]; decide) (by rw [c964]; rfl) (by decide) ?_
                                                refine j_sub [0, 1, 2, 3, 4] rfl ?_
                                                exact m_L_law_b986 E hX hV hU hl0 hb9 hn9 K23 hK23 v1 v2 v3 v4 Z I L hZ hx hc hb kv1 kv2 kv3 h
                                              · have h := h.2 c964
                                                by_cases c965 : ((xs v4.toNatClampNeg) &&& (63 : Int32)) = 21
                                                · have h := h.1 c965
                                                  refine j_tableIn E (995) 1035 dL_law_40 (by rw [c965]; decide) (by rw [c965]; decide) (by rw [c965]; rfl) (by decide) ?_
                                                  refine j_sub [0, 1, 2, 3, 4] rfl ?_
                                                  exact m_L_law_b1035 E hX hV hU hl0 hb9 hn9 K23 hK23 v1 v2 v3 v4 Z I L hZ hx hc hb kv1 kv2 kv3 h
                                                · have h := h.2 c965
                                                  by_cases c966 : ((xs v4.toNatClampNeg) &&& (63 : Int32)) = 22
                                                  · have h := h.1 c966
                                                    refine j_tableIn E (1032) 1072 dL_law_40 (by rw [c966]; decide) (by rw [c966]; decide) (by rw [c966]; rfl) (by decide) ?_
                                                    refine j_sub [0, 1, 2, 3, 4] rfl ?_
                                                    exact m_L_law_b1072 E hX hV hU hl0 hb9 hn9 K23 hK23 v1 v2 v3 v4 Z I L hZ hx hc hb kv1 kv2 kv3 h
                                                  · have h := h.2 c966
                                                    by_cases c967 : ((xs v4.toNatClampNeg) &&& (63 : Int32)) = 23
                                                    · have h := h.1 c967
                                                      refine j_tableIn E (1069) 1109 dL_law_40 (by rw [c967]; decide) (by rw [c967]; decide) (by rw [c967]; rfl) (by decide) ?_
                                                      refine j_sub [0, 1, 2, 3, 4] rfl ?_
                                                      exact m_L_law_b1109 E hX hV hU hl0 hb9 hn9 K23 hK23 v1 v2 v3 v4 Z I L hZ hx hc hb kv1 kv2 kv3 h
                                                    · have h := h.2 c967
                                                      by_cases c968 : ((xs v4.toNatClampNeg) &&& (63 : Int32)) = 24
                                                      · have h := h.1 c968
                                                        refine j_tableIn E (1094) 1134 dL_law_40 (by rw [c968]; decide) (by rw [c968]; decide) (by rw [c968]; rfl) (by decide) ?_
                                                        refine j_sub [0, 1, 2, 3, 4] rfl ?_
                                                        exact m_L_law_b1134 E hX hV hU hl0 hb9 hn9 K23 hK23 v1 v2 v3 v4 Z I L hZ hx hc hb kv1 kv2 kv3 h
                                                      · have h := h.2 c968
                                                        by_cases c969 : ((xs v4.toNatClampNeg) &&& (63 : Int32)) = 25
                                                        · have h := h.1 c969
                                                          refine j_tableIn E (1119) 1159 dL_law_40 (by rw [c969]; decide) (by rw [c969]; decide) (by rw [c969]; rfl) (by decide) ?_
                                                          refine j_sub [0, 1, 2, 3, 4] rfl ?_
                                                          exact m_L_law_b1159 E hX hV hU hl0 hb9 hn9 K23 hK23 v1 v2 v3 v4 Z I L hZ hx hc hb kv1 kv2 kv3 h
                                                        · have h := h.2 c969
                                                          by_cases c970 : ((xs v4.toNatClampNeg) &&& (63 : Int32)) = 26
                                                          · have h := h.1 c970
                                                            refine j_tableIn E (1132) 1172 dL_law_40 (by rw [c970]; decide) (by rw [c970]; decide) (by rw [c970]; rfl) (by decide) ?_
                                                            refine j_sub [0, 1, 2, 3, 4] rfl ?_
                                                            exact m_L_law_b1172 E hX hV hU hl0 hb9 hn9 K23 hK23 v1 v2 v3 v4 Z I L hZ hx hc hb kv1 kv2 kv3 h
                                                          · have h := h.2 c970
                                                            by_cases c971 : ((xs v4.toNatClampNeg) &&& (63 : Int32)) = 27
                                                            · have h := h.1 c971
                                                              refine j_tableIn E (1157) 1197 dL_law_40 (by rw [c971]; decide) (by rw [c971]; decide) (by rw [c971]; rfl) (by decide) ?_
                                                              refine j_sub [0, 1, 2, 3, 4] rfl ?_
                                                              exact m_L_law_b1197 E hX hV hU hl0 hb9 hn9 K23 hK23 v1 v2 v3 v4 Z I L hZ hx hc hb kv1 kv2 kv3 h
                                                            · have h := h.2 c971
                                                              by_cases c972 : ((xs v4.toNatClampNeg) &&& (63 : Int32)) = 28
                                                              · have h := h.1 c972
                                                                refine j_tableIn E (1182) 1222 dL_law_40 (by rw [c972]; decide) (by rw [c972]; decide) (by rw [c972]; rfl) (by decide) ?_
                                                                refine j_sub [0, 1, 2, 3, 4] rfl ?_
                                                                exact m_L_law_b1222 E hX hV hU hl0 hb9 hn9 K23 hK23 v1 v2 v3 v4 Z I L hZ hx hc hb kv1 kv2 kv3 h
                                                              · have h := h.2 c972
                                                                by_cases c973 : ((xs v4.toNatClampNeg) &&& (63 : Int32)) = 29
                                                                · have h := h.1 c973
                                                                  refine j_tableIn E (1207) 1247 dL_law_40 (by rw [c973]; decide) (by rw [c973]; decide) (by rw [c973]; rfl) (by decide) ?_
                                                                  refine j_sub [0, 1, 2, 3, 4] rfl ?_
                                                                  exact m_L_law_b1247 E hX hV hU hl0 hb9 hn9 K23 hK23 v1 v2 v3 v4 Z I L hZ hx hc hb kv1 kv2 kv3 h
                                                                · have h := h.2 c973
                                                                  by_cases c974 : ((xs v4.toNatClampNeg) &&& (63 : Int32)) = 30
                                                                  · have h := h.1 c974
                                                                    refine j_tableIn E (1232) 1272 dL_law_40 (by rw [c974]; decide) (by rw [c974]; decide) (by rw [c974]; rfl) (by decide) ?_
                                                                    refine j_sub [0, 1, 2, 3, 4] rfl ?_
                                                                    exact m_L_law_b1272 E hX hV hU hl0 hb9 hn9 K23 hK23 v1 v2 v3 v4 Z I L hZ hx hc hb kv1 kv2 kv3 h
                                                                  · have h := h.2 c974
                                                                    by_cases c975 : ((xs v4.toNatClampNeg) &&& (63 : Int32)) = 31
                                                                    · have h := h.1 c975
                                                                      refine j_tableIn E (1245) 1285 dL_law_40 (by rw [c975]; decide) (by rw [c975]; decide) (by rw [c975]; rfl) (by decide) ?_
                                                                      refine j_sub [0, 1, 2, 3, 4] rfl ?_
                                                                      exact m_L_law_b1285 E hX hV hU hl0 hb9 hn9 K23 hK23 v1 v2 v3 v4 Z I L hZ hx hc hb kv1 kv2 kv3 h
                                                                    · have h := h.2 c975
                                                                      by_cases c976 : ((xs v4.toNatClampNeg) &&& (63 : Int32)) = 32
                                                                      · have h := h.1 c976
                                                                        refine j_tableIn E (1270) 1310 dL_law_40 (by rw [c976]; decide) (by rw [c976]; decide) (by rw [c976]; rfl) (by decide) ?_
                                                                        refine j_sub [0, 1, 2, 3, 4] rfl ?_
                                                                        exact m_L_law_b1310 E hX hV hU hl0 hb9 hn9 K23 hK23 v1 v2 v3 v4 Z I L hZ hx hc hb kv1 kv2 kv3 h
                                                                      · have h := h.2 c976
                                                                        by_cases c977 : ((xs v4.toNatClampNeg) &&& (63 : Int32)) = 33
                                                                        · have h := h.1 c977
                                                                          refine j_tableIn E (1307) 1347 dL_law_40 (by rw [c977]; decide) (by rw [c977]; decide) (by rw [c977]; rfl) (by decide) ?_
                                                                          refine j_sub [0, 1, 2, 3, 4] rfl ?_
                                                                          exact m_L_law_b1347 E hX hV hU hl0 hb9 hn9 K23 hK23 v1 v2 v3 v4 Z I L hZ hx hc hb kv1 kv2 kv3 h
                                                                        · have h := h.2 c977
                                                                          by_cases c978 : ((xs v4.toNatClampNeg) &&& (63 : Int32)) = 34
                                                                          · have h := h.1 c978
                                                                            refine j_tableIn E (1332) 1372 dL_law_40 (by rw [c978]; decide) (by rw [c978]; decide) (by rw [c978]; rfl) (by decide) ?_
                                                                            refine j_sub [0, 1, 2, 3, 4] rfl ?_
                                                                            exact m_L_law_b1372 E hX hV hU hl0 hb9 hn9 K23 hK23 v1 v2 v3 v4 Z I L hZ hx hc hb kv1 kv2 kv3 h
                                                                          · have h := h.2 c978
                                                                            by_cases c979 : ((xs v4.toNatClampNeg) &&& (63 : Int32)) = 35
                                                                            · have h := h.1 c979
                                                                              refine j_tableIn E (1357) 1397 dL_law_40 (by rw [c979]; decide) (by rw [c979]; decide) (by rw [c979]; rfl) (by decide) ?_
                                                                              refine j_sub [0, 1, 2, 3, 4] rfl ?_
                                                                              exact m_L_law_b1397 E hX hV hU hl0 hb9 hn9 K23 hK23 v1 v2 v3 v4 Z I L hZ hx hc hb kv1 kv2 kv3 h
                                                                            · have h := h.2 c979
                                                                              by_cases c980 : ((xs v4.toNatClampNeg) &&& (63 : Int32)) = 36
                                                                              · have h := h.1 c980
                                                                                refine j_tableIn E (1394) 1434 dL_law_40 (by rw [c980]; decide) (by rw [c980]; decide) (by rw [c980]; rfl) (by decide) ?_
                                                                                refine j_sub [0, 1, 2, 3, 4] rfl ?_
                                                                                exact m_L_law_b1434 E hX hV hU hl0 hb9 hn9 K23 hK23 v1 v2 v3 v4 Z I L hZ hx hc hb kv1 kv2 kv3 h
                                                                              · have h := h.2 c980
                                                                                by_cases c981 : ((xs v4.toNatClampNeg) &&& (63 : Int32)) = 37
                                                                                · have h := h.1 c981
                                                                                  refine j_tableIn E (1467) 1507 dL_law_40 (by rw [c981]; decide) (by rw [c981]; decide) (by rw [c981]; rfl) (by decide) ?_
                                                                                  refine j_sub [0, 1, 2, 3, 4] rfl ?_
                                                                                  exact m_L_law_b1507 E hX hV hU hl0 hb9 hn9 K23 hK23 v1 v2 v3 v4 Z I L hZ hx hc hb kv1 kv2 kv3 h
                                                                                · have h := h.2 c981
                                                                                  by_cases c982 : ((xs v4.toNatClampNeg) &&& (63 : Int32)) = 38
                                                                                  · have h := h.1 c982
                                                                                    refine j_tableIn E (1504) 1544 dL_law_40 (by rw [c982]; decide) (by rw [c982]; decide) (by rw [c982]; rfl) (by decide) ?_
                                                                                    refine j_sub [0, 1, 2, 3, 4] rfl ?_
                                                                                    exact m_L_law_b1544 E hX hV hU hl0 hb9 hn9 K23 hK23 v1 v2 v3 v4 Z I L hZ hx hc hb kv1 kv2 kv3 h
                                                                                  · have h := h.2 c982
                                                                                    by_cases c983 : ((xs v4.toNatClampNeg) &&& (63 : Int32)) = 39
                                                                                    · have h := h.1 c983
                                                                                      refine j_tableIn E (1517) 1557 dL_law_40 (by rw [c983]; decide) (by rw [c983]; decide) (by rw [c983]; rfl) (by decide) ?_
                                                                                      refine j_sub [0, 1, 2, 3, 4] rfl ?_
                                                                                      exact m_L_law_b1557 E hX hV hU hl0 hb9 hn9 K23 hK23 v1 v2 v3 v4 Z I L hZ hx hc hb kv1 kv2 kv3 h
                                                                                    · have h := h.2 c983
                                                                                      by_cases c984 : ((xs v4.toNatClampNeg) &&& (63 : Int32)) = 40
                                                                                      · have h := h.1 c984
                                                                                        refine j_tableIn E (1542) 1582 dL_law_40 (by rw [c984]; decide) (by rw [c984]; decide) (by rw [c984]; rfl) (by decide) ?_
                                                                                        refine j_sub [0, 1, 2, 3, 4] rfl ?_
                                                                                        exact m_L_law_b1582 E hX hV hU hl0 hb9 hn9 K23 hK23 v1 v2 v3 v4 Z I L hZ hx hc hb kv1 kv2 kv3 h
                                                                                      · have h := h.2 c984
                                                                                        by_cases c985 : ((xs v4.toNatClampNeg) &&& (63 : Int32)) = 41
                                                                                        · have h := h.1 c985
                                                                                          refine j_tableIn E (1579) 1619 dL_law_40 (by rw [c985]; decide) (by rw [c985]; decide) (by rw [c985]; rfl) (by decide) ?_
                                                                                          refine j_sub [0, 1, 2, 3, 4] rfl ?_
                                                                                          exact m_L_law_b1619 E hX hV hU hl0 hb9 hn9 K23 hK23 v1 v2 v3 v4 Z I L hZ hx hc hb kv1 kv2 kv3 h
                                                                                        · have h := h.2 c985
                                                                                          by_cases c986 : ((xs v4.toNatClampNeg) &&& (63 : Int32)) = 42
                                                                                          · have h := h.1 c986
                                                                                            refine j_tableIn E (1604) 1644 dL_law_40 (by rw [c986]; decide) (by rw [c986]; decide) (by rw [c986]; rfl) (by decide) ?_
                                                                                            refine j_sub [0, 1, 2, 3, 4] rfl ?_
                                                                                            exact m_L_law_b1644 E hX hV hU hl0 hb9 hn9 K23 hK23 v1 v2 v3 v4 Z I L hZ hx hc hb kv1 kv2 kv3 h
                                                                                          · have h := h.2 c986
                                                                                            by_cases c987 : ((xs v4.toNatClampNeg) &&& (63 : Int32)) = 43
                                                                                            · have h := h.1 c987
                                                                                              refine j_tableIn E (1617) 1657 dL_law_40 (by rw [c987]; decide) (by rw [c987]; decide) (by rw [c987]; rfl) (by decide) ?_
                                                                                              refine j_sub [0, 1, 2, 3, 4] rfl ?_
                                                                                              exact m_L_law_b1657 E hX hV hU hl0 hb9 hn9 K23 hK23 v1 v2 v3 v4 Z I L hZ hx hc hb kv1 kv2 kv3 h
                                                                                            · have h := h.2 c987
                                                                                              by_cases c988 : ((xs v4.toNatClampNeg) &&& (63 : Int32)) = 44
                                                                                              · have h := h.1 c988
                                                                                                refine j_tableIn E (1642) 1682 dL_law_40 (by rw [c988]; decide) (by rw [c988]; decide) (by rw [c988]; rfl) (by decide) ?_
                                                                                                refine j_sub [0, 1, 2, 3, 4] rfl ?_
                                                                                                exact m_L_law_b1682 E hX hV hU hl0 hb9 hn9 K23 hK23 v1 v2 v3 v4 Z I L hZ hx hc hb kv1 kv2 kv3 h
                                                                                              · have h := h.2 c988
                                                                                                by_cases c989 : ((xs v4.toNatClampNeg) &&& (63 : Int32)) = 45
                                                                                                · have h := h.1 c989
                                                                                                  refine j_tableIn E (1667) 1707 dL_law_40 (by rw [c989]; decide) (by rw [c989]; decide) (by rw [c989]; rfl) (by decide) ?_
                                                                                                  refine j_sub [0, 1, 2, 3, 4] rfl ?_
                                                                                                  exact m_L_law_b1707 E hX hV hU hl0 hb9 hn9 K23 hK23 v1 v2 v3 v4 Z I L hZ hx hc hb kv1 kv2 kv3 h
                                                                                                · have h := h.2 c989
                                                                                                  by_cases c990 : ((xs v4.toNatClampNeg) &&& (63 : Int32)) = 46
                                                                                                  · have h := h.1 c990
                                                                                                    refine j_tableIn E (1692) 1732 dL_law_40 (by rw [c990]; decide) (by rw [c990]; decide) (by rw [c990]; rfl) (by decide) ?_
                                                                                                    refine j_sub [0, 1, 2, 3, 4] rfl ?_
                                                                                                    exact m_L_law_b1732 E hX hV hU hl0 hb9 hn9 K23 hK23 v1 v2 v3 v4 Z I L hZ hx hc hb kv1 kv2 kv3 h
                                                                                                  · have h := h.2 c990
                                                                                                    refine j_tableOut E 1760 dL_law_40 (by have tc944 := lv_neT (k := 0) (a := 0) c944 rfl; have tc945 := lv_neT (k := 1) (a := 1) c945 rfl; have tc946 := lv_neT (k := 2) (a := 2) c946 rfl; have tc947 := lv_neT (k := 3) (a := 3) c947 rfl; have tc948 := lv_neT (k := 4) (a := 4) c948 rfl; have tc949 := lv_neT (k := 5) (a := 5) c949 rfl; have tc950 := lv_neT (k := 6) (a := 6) c950 rfl; have tc951 := lv_neT (k := 7) (a := 7) c951 rfl; have tc952 := lv_neT (k := 8) (a := 8) c952 rfl; have tc953 := lv_neT (k := 9) (a := 9) c953 rfl; have tc954 := lv_neT (k := 10) (a := 10) c954 rfl; have tc955 := lv_neT (k := 11) (a := 11) c955 rfl; have tc956 := lv_neT (k := 12) (a := 12) c956 rfl; have tc957 := lv_neT (k := 13) (a := 13) c957 rfl; have tc958 := lv_neT (k := 14) (a := 14) c958 rfl; have tc959 := lv_neT (k := 15) (a := 15) c959 rfl; have tc960 := lv_neT (k := 16) (a := 16) c960 rfl; have tc961 := lv_neT (k := 17) (a := 17) c961 rfl; have tc962 := lv_neT (k := 18) (a := 18) c962 rfl; have tc963 := lv_neT (k := 19) (a := 19) c963 rfl; have tc964 := lv_neT (k := 20) (a := 20) c964 rfl; have tc965 := lv_neT (k := 21) (a := 21) c965 rfl; have tc966 := lv_neT (k := 22) (a := 22) c966 rfl; have tc967 := lv_neT (k := 23) (a := 23) c967 rfl; have tc968 := lv_neT (k := 24) (a := 24) c968 rfl; have tc969 := lv_neT (k := 25) (a := 25) c969 rfl; have tc970 := lv_neT (k := 26) (a := 26) c970 rfl; have tc971 := lv_neT (k := 27) (a := 27) c971 rfl; have tc972 := lv_neT (k := 28) (a := 28) c972 rfl; have tc973 := lv_neT (k := 29) (a := 29) c973 rfl; have tc974 := lv_neT (k := 30) (a := 30) c974 rfl; have tc975 := lv_neT (k := 31) (a := 31) c975 rfl; have tc976 := lv_neT (k := 32) (a := 32) c976 rfl; have tc977 := lv_neT (k := 33) (a := 33) c977 rfl; have tc978 := lv_neT (k := 34) (a := 34) c978 rfl; have tc979 := lv_neT (k := 35) (a := 35) c979 rfl; have tc980 := lv_neT (k := 36) (a := 36) c980 rfl; have tc981 := lv_neT (k := 37) (a := 37) c981 rfl; have tc982 := lv_neT (k := 38) (a := 38) c982 rfl; have tc983 := lv_neT (k := 39) (a := 39) c983 rfl; have tc984 := lv_neT (k := 40) (a := 40) c984 rfl; have tc985 := lv_neT (k := 41) (a := 41) c985 rfl; have tc986 := lv_neT (k := 42) (a := 42) c986 rfl; have tc987 := lv_neT (k := 43) (a := 43) c987 rfl; have tc988 := lv_neT (k := 44) (a := 44) c988 rfl; have tc989 := lv_neT (k := 45) (a := 45) c989 rfl; have tc990 := lv_neT (k := 46) (a := 46) c990 rfl; omega) (by decide) ?_
                                                                                                    refine j_sub [0, 1, 2, 3, 4] rfl ?_
                                                                                                    refine j_widen (k9 := k9 + (jcz Z - jcz Z5) + 27) (n9 := n9 + (jsz Z - jsz Z5) + 600) (by show k9 + (jcz Z - jcz Z5) + 0 ≤ _; omega) (by show n9 + (jsz Z - jsz Z5) + 0 ≤ _; omega) ?_
                                                                                                    exact m_L_law_b1760 E hX hV hU hl0 hb9 hn9 K23 hK23 v1 v2 v3 v4 Z I L hZ hx hc hb kv1 kv2 kv3 h
/-- no ints, no longs -/
def jIe : jI := fun _ _ => 0
def jLe : jL := fun _ _ => 0
set_option maxRecDepth 100000 in
def f_L_law (xs : Nat → Int32) (Ls : Nat) : Prop := (∀ q991 : Nat, q991 ∉ jZe.1 → ∀ Z992 : jZ, Z992 = jnw jZe q991 11 0 → ∀ I993 : jI, I993 = jz0 jIe q991 → ∀ L994 : jL, L994 = jzL jLe q991 → (f_X11_init q991 Z992 I993 L994 (fun Z996 I997 L998 => (∀ q1001 : Nat, q1001 ∉ Z996.1 → ∀ Z1002 : jZ, Z1002 = jnw Z996 q1001 12 0 → ∀ I1003 : jI, I1003 = jz0 I997 q1001 → ∀ L1004 : jL, L1004 = jzL L998 q1001 → (f_X12_init q1001 Z1002 I1003 L1004 (fun Z1007 I1008 L1009 => (∀ q1013 : Nat, q1013 ∉ Z1007.1 → ∀ Z1014 : jZ, Z1014 = jnw Z1007 q1013 15 1 → ∀ I1015 : jI, I1015 = jz0 I1008 q1013 → ∀ L1016 : jL, L1016 = jzL L1009 q1013 → (SH Z1014 ∧ ∃ (B : Nat × Nat) (m9 : Nat), (m9 ≤ 513 ∧ jin B Z1014 ∧ B.1 ≤ jcz Z1014 + 50000 ∧ B.2 ≤ jsz Z1014 + 6000000) ∧ f_L_law_L23 xs Ls B m9 q991 q1001 q1013 (0 : Int32) Z1014 I1015 L1016))))))))
set_option maxHeartbeats 4000000 in
set_option maxRecDepth 100000 in
theorem m_L_law {G : jG} {xs : Nat → Int32} {Ls b sa sb : Nat} (E : jE G cL_law RL (Cond.arrayClass .byte :: jT) 8 (some .boolean) room_1 jRL) (hX : va_X b Ls xs (gS G) (gS G).heap ∧ b < (gS G).heap.size ∧ ¬ gA G b) (hV : jV (gA G) (gS G) (gS G).heap) (hU : jU sa sb (gA G) (gS G) (gS G).heap) (hl0 : (gL G).stackTraces = false) (h : f_L_law xs Ls) : jJ G 8 0 [(0, .ref b)] [] jZe jIe jLe 0 0 := by
  unfold f_L_law at h
  have hx : jext jZe jZe := jext_rfl
  refine j_new E 11 rfl rfl (by decide) (iw iT_11) tyX11_ok (by decide) (tw W_1587) (tw W_1588) (tw W_40) (by decide) (by decide) dL_law_0 (fun q991 nq991 => ?_)
  refine j_nmZ (fun Z992 eZ992 => ?_)
  refine j_nmI (fun I993 eI993 => ?_)
  refine j_nmL (fun L994 eL994 => ?_)
  have h := h q991 nq991 Z992 eZ992 I993 eI993 L994 eL994
  have yZ992 : jext jZe Z992 := by rw [eZ992]; exact jext_nw nq991
  have kq991 : jk Z992 q991 11 := by rw [eZ992]; exact jk_nw
  have hx : jext jZe Z992 := jext_trans hx yZ992
  refine j_dup E dL_law_3 rfl ?_
  refine j_callI E [] [.ref q991] (c_X11_init (gL G) (gD G) (gY G) q991 Z992 I993 L994 _ kq991 h) (gwN W_1589) rfl (tw W_40) (tw W_1590) (tw W_1591) rfl fy_X11_init ⟨by decide, by decide⟩ rfl rfl (Nat.le_of_ble_eq_true rfl) ⟨by decide, by decide⟩ dL_law_4 (fun v995 Z996 I997 L998 q999 => ?_)
  obtain ⟨yZ996, rfl, h⟩ := q999
  have k1000 := (yZ996 _ _ kq991).1
  have hx : jext jZe Z996 := jext_trans hx yZ996
  show jJ G 8 7 [(0, .ref b)] [.ref q991] Z996 I997 L998 _ _
  refine j_astore_n E 1 [(1, .ref q991), (0, .ref b)] dL_law_7 rfl (by decide) rfl ?_
  refine j_new E 12 rfl rfl (by decide) (iw iT_12) tyX12_ok (by decide) (tw W_1592) (tw W_1593) (tw W_695) (by decide) (by decide) dL_law_8 (fun q1001 nq1001 => ?_)
  refine j_nmZ (fun Z1002 eZ1002 => ?_)
  refine j_nmI (fun I1003 eI1003 => ?_)
  refine j_nmL (fun L1004 eL1004 => ?_)
  have h := h q1001 nq1001 Z1002 eZ1002 I1003 eI1003 L1004 eL1004
  have yZ1002 : jext Z996 Z1002 := by rw [eZ1002]; exact jext_nw nq1001
  have kq1001 : jk Z1002 q1001 12 := by rw [eZ1002]; exact jk_nw
  have k1005 := (yZ1002 _ _ k1000).1
  have hx : jext jZe Z1002 := jext_trans hx yZ1002
  refine j_dup E dL_law_11 rfl ?_
  refine j_callI E [] [.ref q1001] (c_X12_init (gL G) (gD G) (gY G) q1001 Z1002 I1003 L1004 _ kq1001 h) (gwN W_1594) rfl (tw W_695) (tw W_1595) (tw W_1596) rfl fy_X12_init ⟨by decide, by decide⟩ rfl rfl (Nat.le_of_ble_eq_true rfl) ⟨by decide, by decide⟩ dL_law_12 (fun v1006 Z1007 I1008 L1009 q1010 => ?_)
  obtain ⟨yZ1007, rfl, h⟩ := q1010
  have k1011 := (yZ1007 _ _ k1005).1
  have k1012 := (yZ1007 _ _ kq1001).1
  have hx : jext jZe Z1007 := jext_trans hx yZ1007
  show jJ G 8 15 [(1, .ref q991), (0, .ref b)] [.ref q1001] Z1007 I1008 L1009 _ _
  refine j_astore_n E 2 [(2, .ref q1001), (1, .ref q991), (0, .ref b)] dL_law_15 rfl (by decide) rfl ?_
  refine j_iconst E (v := 1) dL_law_16 (by decide) ?_
  refine j_newaJ E 1 (by decide) (by decide) (by decide) (tw W_5) (by decide) (by decide) dL_law_17 (fun q1013 nq1013 => ?_)
  refine j_nmZ (fun Z1014 eZ1014 => ?_)
  refine j_nmI (fun I1015 eI1015 => ?_)
  refine j_nmL (fun L1016 eL1016 => ?_)
  have h := h q1013 nq1013 Z1014 eZ1014 I1015 eI1015 L1016 eL1016
  have yZ1014 : jext Z1007 Z1014 := by rw [eZ1014]; exact jext_nw nq1013
  have kq1013 : jk Z1014 q1013 15 := by rw [eZ1014]; exact jk_nw
  have k1017 := (yZ1014 _ _ k1011).1
  have k1018 := (yZ1014 _ _ k1012).1
  have hx : jext jZe Z1014 := jext_trans hx yZ1014
  refine j_astore_n E 3 [(3, .ref q1013), (2, .ref q1001), (1, .ref q991), (0, .ref b)] dL_law_19 rfl (by decide) rfl ?_
  refine j_iconst E (v := 0) dL_law_20 (by decide) ?_
  refine j_istore E 4 [(4, .int (0 : Int32)), (3, .ref q1013), (2, .ref q1001), (1, .ref q991), (0, .ref b)] dL_law_21 (by decide) rfl ?_
  obtain ⟨hZ, B, m9, hm9, h⟩ := h
  refine j_sub [4, 3, 2, 1, 0] rfl ?_
  refine j_widen (k9 := 114 + (jcz Z1014 - jcz Z1014) + 0) (n9 := 516091 + (jsz Z1014 - jsz Z1014) + 0) (by show 114 ≤ _; omega) (by show 516091 ≤ _; omega) ?_
  exact m_L_law_L23 E hX hV hU hl0 m9 114 516091 q991 q1001 q1013 (0 : Int32) Z1014 I1015 L1016 (by have := hm9.1; have := hm9.2.2.1; omega) (by have := hm9.1; have := hm9.2.2.2; omega) hZ jext_rfl jle_rfl hm9.2.1 k1017 k1018 kq1013 h
theorem jthw_in : ∀ w ∈ jthw, w ∈ vyL.filter vx_no := by decide +kernel
set_option maxRecDepth 100000 in
/-- what a throw stands on, at the law's entry -/
theorem law_V {p : Program} {s : State} {m : MethodId} {meth : Method} {c : Code} {b Ls : Nat} {xs : Nat → Int32} (C0 : lw_At p s m meth c b Ls xs) : jV (fun q => s.heap.size ≤ q) s s.heap := by
  obtain ⟨-, -, -, -, -, hts, -, -, -, hgv⟩ := C0
  have hs := flat_of_before _ hgv
  have hi : (Cond.initialized Bundle.tN).before #[Value.ref b] s = true := hts _ (by decide +kernel)
  refine ⟨fun w hw => ?_, ?_, vx_Zqof (hts _ (by decide +kernel)) hi (hs _ (by decide +kernel)) (fun a h => Nat.not_le.mpr h), vx_Zqof (hts _ (by decide +kernel)) hi (hs _ (by decide +kernel)) (fun a h => Nat.not_le.mpr h)⟩
  · have h1 := hts w (vy_in w (jthw_in w hw))
    have h2 := jthw_all w hw
    cases w with
    | declares x => exact va_Nw.of rfl h1
    | castable a b => exact va_Nw.of rfl h1
    | _ => cases h2
  · have st : ∀ (i : Nat) (tx : String), (Cond.exactly (.string "StairsInSteps" i) "java/lang/String") ∈ flatC (Jvm.Cond.and given_1 narrow_1) → Cond.stringRef "StairsInSteps" i tx ∈ lw_tbl → ∃ sa : Nat, vk_R "StairsInSteps" i tx sa s := fun i tx h1 h2 => by
      obtain ⟨a, -, -, -, ha, -⟩ := Cond.exactly_spec (hs _ h1)
      exact ⟨a, vk_R.of (hts _ h2) ha⟩
    have e : ∀ q ∈ jstr, (Cond.exactly (.string "StairsInSteps" q.1) "java/lang/String") ∈ flatC (Jvm.Cond.and given_1 narrow_1) ∧ Cond.stringRef "StairsInSteps" q.1 q.2 ∈ lw_tbl := by decide +kernel
    exact fun q hq => st q.1 q.2 (e q hq).1 (e q hq).2
set_option maxRecDepth 100000 in
/-- the String of LETTERS, at the law's entry -/
theorem law_U {p : Program} {s : State} {m : MethodId} {meth : Method} {c : Code} {b Ls : Nat} {xs : Nat → Int32} (C0 : lw_At p s m meth c b Ls xs) : ∃ sa sb : Nat, jU sa sb (fun q => s.heap.size ≤ q) s s.heap := by
  obtain ⟨-, -, -, -, -, hts, -, -, -, hgv⟩ := C0
  have hs := flat_of_before _ hgv
  have hA : ∀ a : Nat, a < s.heap.size → ¬ s.heap.size ≤ a := fun a h => Nat.not_le.mpr h
  have hel : ∀ j ∈ [0, 1, 2, 3, 4, 5, 6], (Cond.eq (.elem (.field (.string "StairsInSteps$Law" 91) "java/lang/String" "value" "[B") (.int (Int32.ofNat j))) (.int (jlet.getD j 0))) ∈ flatC (Jvm.Cond.and given_1 narrow_1) := by decide +kernel
  obtain ⟨adK, adV, h1, h2⟩ := vk_Sof (args := #[Value.ref b]) (s := s) (N := 1) (tm := fun _ => .string "StairsInSteps$Law" 91) (len := [7]) (byt := [jlet]) (A := fun q => s.heap.size ≤ q)
    (fun i hi => by obtain rfl : i = 0 := by omega
                    decide) (fun i hi => hs _ (by decide +kernel)) (fun i hi => hs _ (by decide +kernel)) (fun i hi => hs _ (by decide +kernel))
    (fun i hi => by obtain rfl : i = 0 := by omega
                    exact hs _ (by decide +kernel))
    (fun i hi j hj => by
      obtain rfl : i = 0 := by omega
      have hj : j < 7 := hj
      exact hs _ (hel j (by rcases (show j = 0 ∨ j = 1 ∨ j = 2 ∨ j = 3 ∨ j = 4 ∨ j = 5 ∨ j = 6 by omega) with rfl | rfl | rfl | rfl | rfl | rfl | rfl <;> decide)))
    (fun i j hi hj hne => by omega) hA
  obtain ⟨g1, g2, g3, g4⟩ := h1.1 0 (by omega)
  exact ⟨adK 0, adV 0, vk_R.of (hts _ (by decide +kernel)) (h2 0 (by omega)), g1, g2, g3, g4, va_Zof (hts _ (by decide +kernel)) (hts _ (by decide +kernel)) (va_eqi (hs _ (by decide +kernel))) hA⟩
/-- THE LAW out of f_L_law alone: no machine is left -/
theorem law_go {p : Program} {e : Env} {s : State} {m : MethodId} {below : List Frame} {meth : Method} {c : Code} (l : Launch) (hl0 : l.stackTraces = false) {b Ls : Nat} {xs : Nat → Int32} (C0 : lw_At p s m meth c b Ls xs) (h : f_L_law xs Ls) : W p l e room_1 s m #[Value.ref b] below meth c s.heap [] 0 0 (lw_Z below #[Value.ref b] s) (entryFrame m ([Value.ref b] : List Value).toArray 8) := by
  refine law_in l C0 (fun G eL eS eX eA E => ?_)
  obtain ⟨sa, sb, hU⟩ := law_U C0
  refine m_L_law (sa := sa) (sb := sb) E ?_ ?_ (by rw [eS, eA]; exact hU) (by rw [eL]; exact hl0) h
  · rw [eS, eA]
    exact ⟨C0.2.2.2.2.2.2.1, C0.2.2.2.2.2.2.2.1, Nat.not_le.mpr C0.2.2.2.2.2.2.2.1⟩
  · rw [eS, eA]
    exact law_V C0
