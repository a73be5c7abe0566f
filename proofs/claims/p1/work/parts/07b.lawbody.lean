/-! ===== the law's body ===== -/
theorem W_1174 : Cond.code yX11_sign cX11_sign 2 (some .int) ∈ jT := jT_mem (mt_2 (List.mem_of_getElem? (i := 155) rfl)) rfl
theorem W_1175 : Cond.methodLink RL 26 yX11_sign ∈ jT := jT_mem (mt_2 (List.mem_of_getElem? (i := 152) rfl)) rfl
theorem W_1176 : Cond.instanceMethod yX11_sign ∈ jT := jT_mem (mt_2 (List.mem_of_getElem? (i := 153) rfl)) rfl
theorem W_1177 : Cond.selects RX11 yX11_sign yX11_sign ∈ jT := jT_mem (mt_2 (List.mem_of_getElem? (i := 154) rfl)) rfl
theorem W_1178 : Cond.code yX12_sign cX12_sign 3 (some .int) ∈ jT := jT_mem (mt_8 (List.mem_of_getElem? (i := 3) rfl)) rfl
theorem W_1179 : Cond.methodLink RL 30 yX12_sign ∈ jT := jT_mem (mt_8 (List.mem_of_getElem? (i := 0) rfl)) rfl
theorem W_1180 : Cond.instanceMethod yX12_sign ∈ jT := jT_mem (mt_8 (List.mem_of_getElem? (i := 1) rfl)) rfl
theorem W_1181 : Cond.selects RX12 yX12_sign yX12_sign ∈ jT := jT_mem (mt_8 (List.mem_of_getElem? (i := 2) rfl)) rfl
theorem W_1182 : Cond.code yX11_end cX11_end 2 (some .boolean) ∈ jT := jT_mem (mt_2 (List.mem_of_getElem? (i := 163) rfl)) rfl
theorem W_1183 : Cond.methodLink RL 31 yX11_end ∈ jT := jT_mem (mt_2 (List.mem_of_getElem? (i := 160) rfl)) rfl
theorem W_1184 : Cond.instanceMethod yX11_end ∈ jT := jT_mem (mt_2 (List.mem_of_getElem? (i := 161) rfl)) rfl
theorem W_1185 : Cond.selects RX11 yX11_end yX11_end ∈ jT := jT_mem (mt_2 (List.mem_of_getElem? (i := 162) rfl)) rfl
theorem W_1186 : Cond.code yX12_end cX12_end 2 (some .boolean) ∈ jT := jT_mem (mt_8 (List.mem_of_getElem? (i := 7) rfl)) rfl
theorem W_1187 : Cond.methodLink RL 35 yX12_end ∈ jT := jT_mem (mt_8 (List.mem_of_getElem? (i := 4) rfl)) rfl
theorem W_1188 : Cond.instanceMethod yX12_end ∈ jT := jT_mem (mt_8 (List.mem_of_getElem? (i := 5) rfl)) rfl
theorem W_1189 : Cond.selects RX12 yX12_end yX12_end ∈ jT := jT_mem (mt_8 (List.mem_of_getElem? (i := 6) rfl)) rfl
theorem W_1190 : Cond.code yX11_stairs cX11_stairs 4 (some .int) ∈ jT := jT_mem (mt_2 (List.mem_of_getElem? (i := 171) rfl)) rfl
theorem W_1191 : Cond.methodLink RL 36 yX11_stairs ∈ jT := jT_mem (mt_2 (List.mem_of_getElem? (i := 168) rfl)) rfl
theorem W_1192 : Cond.instanceMethod yX11_stairs ∈ jT := jT_mem (mt_2 (List.mem_of_getElem? (i := 169) rfl)) rfl
theorem W_1193 : Cond.selects RX11 yX11_stairs yX11_stairs ∈ jT := jT_mem (mt_2 (List.mem_of_getElem? (i := 170) rfl)) rfl
theorem W_1194 : Cond.code yX12_stairs cX12_stairs 5 (some .int) ∈ jT := jT_mem (mt_8 (List.mem_of_getElem? (i := 14) rfl)) rfl
theorem W_1195 : Cond.methodLink RL 40 yX12_stairs ∈ jT := jT_mem (mt_8 (List.mem_of_getElem? (i := 11) rfl)) rfl
theorem W_1196 : Cond.instanceMethod yX12_stairs ∈ jT := jT_mem (mt_8 (List.mem_of_getElem? (i := 12) rfl)) rfl
theorem W_1197 : Cond.selects RX12 yX12_stairs yX12_stairs ∈ jT := jT_mem (mt_8 (List.mem_of_getElem? (i := 13) rfl)) rfl
theorem W_1198 : Cond.code yX11_law cX11_law 3 (some .int) ∈ jT := jT_mem (mt_3 (List.mem_of_getElem? (i := 24) rfl)) rfl
theorem W_1199 : Cond.methodLink RL 41 yX11_law ∈ jT := jT_mem (mt_3 (List.mem_of_getElem? (i := 21) rfl)) rfl
theorem W_1200 : Cond.instanceMethod yX11_law ∈ jT := jT_mem (mt_3 (List.mem_of_getElem? (i := 22) rfl)) rfl
theorem W_1201 : Cond.selects RX11 yX11_law yX11_law ∈ jT := jT_mem (mt_3 (List.mem_of_getElem? (i := 23) rfl)) rfl
theorem W_1202 : Cond.code yX12_law cX12_law 4 (some .int) ∈ jT := jT_mem (mt_8 (List.mem_of_getElem? (i := 50) rfl)) rfl
theorem W_1203 : Cond.methodLink RL 44 yX12_law ∈ jT := jT_mem (mt_8 (List.mem_of_getElem? (i := 47) rfl)) rfl
theorem W_1204 : Cond.instanceMethod yX12_law ∈ jT := jT_mem (mt_8 (List.mem_of_getElem? (i := 48) rfl)) rfl
theorem W_1205 : Cond.selects RX12 yX12_law yX12_law ∈ jT := jT_mem (mt_8 (List.mem_of_getElem? (i := 49) rfl)) rfl
theorem W_1206 : Cond.initialized RL ∈ jT := jT_mem (mt_1 (List.mem_of_getElem? (i := 0) rfl)) rfl
theorem W_1207 : Cond.methodLink RL 45 yL_step ∈ jT := jT_mem (mt_6 (List.mem_of_getElem? (i := 174) rfl)) rfl
theorem W_1208 : Cond.static yL_step ∈ jT := jT_mem (mt_6 (List.mem_of_getElem? (i := 175) rfl)) rfl
theorem W_1209 : Cond.codeWith yL_step cL_step 5 (some .int) [(0, 10, 13, 13)] ∈ jT := jT_mem (mt_6 (List.mem_of_getElem? (i := 176) rfl)) rfl
theorem W_1210 : Cond.code yX12_step cX12_step 3 (some .int) ∈ jT := jT_mem (mt_8 (List.mem_of_getElem? (i := 78) rfl)) rfl
theorem W_1211 : Cond.methodLink RL 50 yX12_step ∈ jT := jT_mem (mt_8 (List.mem_of_getElem? (i := 75) rfl)) rfl
theorem W_1212 : Cond.instanceMethod yX12_step ∈ jT := jT_mem (mt_8 (List.mem_of_getElem? (i := 76) rfl)) rfl
theorem W_1213 : Cond.selects RX12 yX12_step yX12_step ∈ jT := jT_mem (mt_8 (List.mem_of_getElem? (i := 77) rfl)) rfl
theorem W_1214 : Cond.code yX12_thrown cX12_thrown 1 (some .int) ∈ jT := jT_mem (mt_7 (List.mem_of_getElem? (i := 239) rfl)) rfl
theorem W_1215 : Cond.methodLink RL 51 yX12_thrown ∈ jT := jT_mem (mt_7 (List.mem_of_getElem? (i := 236) rfl)) rfl
theorem W_1216 : Cond.instanceMethod yX12_thrown ∈ jT := jT_mem (mt_7 (List.mem_of_getElem? (i := 237) rfl)) rfl
theorem W_1217 : Cond.selects RX12 yX12_thrown yX12_thrown ∈ jT := jT_mem (mt_7 (List.mem_of_getElem? (i := 238) rfl)) rfl
theorem W_1218 : Cond.code yX11_set cX11_set 5 (some .int) ∈ jT := jT_mem (mt_3 (List.mem_of_getElem? (i := 161) rfl)) rfl
theorem W_1219 : Cond.methodLink RL 54 yX11_set ∈ jT := jT_mem (mt_3 (List.mem_of_getElem? (i := 158) rfl)) rfl
theorem W_1220 : Cond.instanceMethod yX11_set ∈ jT := jT_mem (mt_3 (List.mem_of_getElem? (i := 159) rfl)) rfl
theorem W_1221 : Cond.selects RX11 yX11_set yX11_set ∈ jT := jT_mem (mt_3 (List.mem_of_getElem? (i := 160) rfl)) rfl
theorem W_1222 : Cond.code yX12_set cX12_set 5 (some .int) ∈ jT := jT_mem (mt_8 (List.mem_of_getElem? (i := 90) rfl)) rfl
theorem W_1223 : Cond.methodLink RL 58 yX12_set ∈ jT := jT_mem (mt_8 (List.mem_of_getElem? (i := 87) rfl)) rfl
theorem W_1224 : Cond.instanceMethod yX12_set ∈ jT := jT_mem (mt_8 (List.mem_of_getElem? (i := 88) rfl)) rfl
theorem W_1225 : Cond.selects RX12 yX12_set yX12_set ∈ jT := jT_mem (mt_8 (List.mem_of_getElem? (i := 89) rfl)) rfl
theorem W_1226 : Cond.code yX11_sheet cX11_sheet 8 (some .int) ∈ jT := jT_mem (mt_3 (List.mem_of_getElem? (i := 169) rfl)) rfl
theorem W_1227 : Cond.methodLink RL 59 yX11_sheet ∈ jT := jT_mem (mt_3 (List.mem_of_getElem? (i := 166) rfl)) rfl
theorem W_1228 : Cond.instanceMethod yX11_sheet ∈ jT := jT_mem (mt_3 (List.mem_of_getElem? (i := 167) rfl)) rfl
theorem W_1229 : Cond.selects RX11 yX11_sheet yX11_sheet ∈ jT := jT_mem (mt_3 (List.mem_of_getElem? (i := 168) rfl)) rfl
theorem W_1230 : Cond.code yX12_sheet cX12_sheet 9 (some .int) ∈ jT := jT_mem (mt_8 (List.mem_of_getElem? (i := 94) rfl)) rfl
theorem W_1231 : Cond.methodLink RL 63 yX12_sheet ∈ jT := jT_mem (mt_8 (List.mem_of_getElem? (i := 91) rfl)) rfl
theorem W_1232 : Cond.instanceMethod yX12_sheet ∈ jT := jT_mem (mt_8 (List.mem_of_getElem? (i := 92) rfl)) rfl
theorem W_1233 : Cond.selects RX12 yX12_sheet yX12_sheet ∈ jT := jT_mem (mt_8 (List.mem_of_getElem? (i := 93) rfl)) rfl
theorem W_1234 : Cond.code yX12_feud cX12_feud 4 (some .boolean) ∈ jT := jT_mem (mt_8 (List.mem_of_getElem? (i := 100) rfl)) rfl
theorem W_1235 : Cond.methodLink RL 68 yX12_feud ∈ jT := jT_mem (mt_8 (List.mem_of_getElem? (i := 97) rfl)) rfl
theorem W_1236 : Cond.instanceMethod yX12_feud ∈ jT := jT_mem (mt_8 (List.mem_of_getElem? (i := 98) rfl)) rfl
theorem W_1237 : Cond.selects RX12 yX12_feud yX12_feud ∈ jT := jT_mem (mt_8 (List.mem_of_getElem? (i := 99) rfl)) rfl
theorem W_1238 : Cond.code yX11_feud cX11_feud 4 (some .boolean) ∈ jT := jT_mem (mt_3 (List.mem_of_getElem? (i := 182) rfl)) rfl
theorem W_1239 : Cond.methodLink RL 64 yX11_feud ∈ jT := jT_mem (mt_3 (List.mem_of_getElem? (i := 179) rfl)) rfl
theorem W_1240 : Cond.instanceMethod yX11_feud ∈ jT := jT_mem (mt_3 (List.mem_of_getElem? (i := 180) rfl)) rfl
theorem W_1241 : Cond.selects RX11 yX11_feud yX11_feud ∈ jT := jT_mem (mt_3 (List.mem_of_getElem? (i := 181) rfl)) rfl
theorem W_1242 : Cond.code yX11_wears cX11_wears 4 (some .int) ∈ jT := jT_mem (mt_3 (List.mem_of_getElem? (i := 192) rfl)) rfl
theorem W_1243 : Cond.methodLink RL 69 yX11_wears ∈ jT := jT_mem (mt_3 (List.mem_of_getElem? (i := 189) rfl)) rfl
theorem W_1244 : Cond.instanceMethod yX11_wears ∈ jT := jT_mem (mt_3 (List.mem_of_getElem? (i := 190) rfl)) rfl
theorem W_1245 : Cond.selects RX11 yX11_wears yX11_wears ∈ jT := jT_mem (mt_3 (List.mem_of_getElem? (i := 191) rfl)) rfl
theorem W_1246 : Cond.code yX12_wears cX12_wears 4 (some .int) ∈ jT := jT_mem (mt_8 (List.mem_of_getElem? (i := 111) rfl)) rfl
theorem W_1247 : Cond.methodLink RL 72 yX12_wears ∈ jT := jT_mem (mt_8 (List.mem_of_getElem? (i := 108) rfl)) rfl
theorem W_1248 : Cond.instanceMethod yX12_wears ∈ jT := jT_mem (mt_8 (List.mem_of_getElem? (i := 109) rfl)) rfl
theorem W_1249 : Cond.selects RX12 yX12_wears yX12_wears ∈ jT := jT_mem (mt_8 (List.mem_of_getElem? (i := 110) rfl)) rfl
theorem W_1250 : Cond.code yX11_pilgrim cX11_pilgrim 6 (some .int) ∈ jT := jT_mem (mt_3 (List.mem_of_getElem? (i := 196) rfl)) rfl
theorem W_1251 : Cond.methodLink RL 73 yX11_pilgrim ∈ jT := jT_mem (mt_3 (List.mem_of_getElem? (i := 193) rfl)) rfl
theorem W_1252 : Cond.instanceMethod yX11_pilgrim ∈ jT := jT_mem (mt_3 (List.mem_of_getElem? (i := 194) rfl)) rfl
theorem W_1253 : Cond.selects RX11 yX11_pilgrim yX11_pilgrim ∈ jT := jT_mem (mt_3 (List.mem_of_getElem? (i := 195) rfl)) rfl
theorem W_1254 : Cond.code yX12_pilgrim cX12_pilgrim 5 (some .int) ∈ jT := jT_mem (mt_8 (List.mem_of_getElem? (i := 115) rfl)) rfl
theorem W_1255 : Cond.methodLink RL 76 yX12_pilgrim ∈ jT := jT_mem (mt_8 (List.mem_of_getElem? (i := 112) rfl)) rfl
theorem W_1256 : Cond.instanceMethod yX12_pilgrim ∈ jT := jT_mem (mt_8 (List.mem_of_getElem? (i := 113) rfl)) rfl
theorem W_1257 : Cond.selects RX12 yX12_pilgrim yX12_pilgrim ∈ jT := jT_mem (mt_8 (List.mem_of_getElem? (i := 114) rfl)) rfl
theorem W_1258 : Cond.code yX11_vow cX11_vow 5 (some .int) ∈ jT := jT_mem (mt_4 (List.mem_of_getElem? (i := 69) rfl)) rfl
theorem W_1259 : Cond.methodLink RL 77 yX11_vow ∈ jT := jT_mem (mt_4 (List.mem_of_getElem? (i := 66) rfl)) rfl
theorem W_1260 : Cond.instanceMethod yX11_vow ∈ jT := jT_mem (mt_4 (List.mem_of_getElem? (i := 67) rfl)) rfl
theorem W_1261 : Cond.selects RX11 yX11_vow yX11_vow ∈ jT := jT_mem (mt_4 (List.mem_of_getElem? (i := 68) rfl)) rfl
theorem W_1262 : Cond.code yX12_vow cX12_vow 4 (some .int) ∈ jT := jT_mem (mt_8 (List.mem_of_getElem? (i := 119) rfl)) rfl
theorem W_1263 : Cond.methodLink RL 80 yX12_vow ∈ jT := jT_mem (mt_8 (List.mem_of_getElem? (i := 116) rfl)) rfl
theorem W_1264 : Cond.instanceMethod yX12_vow ∈ jT := jT_mem (mt_8 (List.mem_of_getElem? (i := 117) rfl)) rfl
theorem W_1265 : Cond.selects RX12 yX12_vow yX12_vow ∈ jT := jT_mem (mt_8 (List.mem_of_getElem? (i := 118) rfl)) rfl
theorem W_1266 : Cond.methodLink RL 81 yL_of ∈ jT := jT_mem (mt_7 (List.mem_of_getElem? (i := 8) rfl)) rfl
theorem W_1267 : Cond.static yL_of ∈ jT := jT_mem (mt_7 (List.mem_of_getElem? (i := 9) rfl)) rfl
theorem W_1268 : Cond.codeWith yL_of cL_of 5 (some .int) [(0, 10, 13, 13)] ∈ jT := jT_mem (mt_7 (List.mem_of_getElem? (i := 10) rfl)) rfl
theorem W_1269 : Cond.code yX12_of cX12_of 3 (some .int) ∈ jT := jT_mem (mt_8 (List.mem_of_getElem? (i := 127) rfl)) rfl
theorem W_1270 : Cond.methodLink RL 83 yX12_of ∈ jT := jT_mem (mt_8 (List.mem_of_getElem? (i := 124) rfl)) rfl
theorem W_1271 : Cond.instanceMethod yX12_of ∈ jT := jT_mem (mt_8 (List.mem_of_getElem? (i := 125) rfl)) rfl
theorem W_1272 : Cond.selects RX12 yX12_of yX12_of ∈ jT := jT_mem (mt_8 (List.mem_of_getElem? (i := 126) rfl)) rfl
theorem W_1273 : Cond.code yX11_costs cX11_costs 4 (some .int) ∈ jT := jT_mem (mt_4 (List.mem_of_getElem? (i := 73) rfl)) rfl
theorem W_1274 : Cond.methodLink RL 84 yX11_costs ∈ jT := jT_mem (mt_4 (List.mem_of_getElem? (i := 70) rfl)) rfl
theorem W_1275 : Cond.instanceMethod yX11_costs ∈ jT := jT_mem (mt_4 (List.mem_of_getElem? (i := 71) rfl)) rfl
theorem W_1276 : Cond.selects RX11 yX11_costs yX11_costs ∈ jT := jT_mem (mt_4 (List.mem_of_getElem? (i := 72) rfl)) rfl
theorem W_1277 : Cond.code yX12_costs cX12_costs 3 (some .int) ∈ jT := jT_mem (mt_8 (List.mem_of_getElem? (i := 131) rfl)) rfl
theorem W_1278 : Cond.methodLink RL 87 yX12_costs ∈ jT := jT_mem (mt_8 (List.mem_of_getElem? (i := 128) rfl)) rfl
theorem W_1279 : Cond.instanceMethod yX12_costs ∈ jT := jT_mem (mt_8 (List.mem_of_getElem? (i := 129) rfl)) rfl
theorem W_1280 : Cond.selects RX12 yX12_costs yX12_costs ∈ jT := jT_mem (mt_8 (List.mem_of_getElem? (i := 130) rfl)) rfl
theorem W_1281 : Cond.code yX11_tread cX11_tread 6 (some .int) ∈ jT := jT_mem (mt_4 (List.mem_of_getElem? (i := 134) rfl)) rfl
theorem W_1282 : Cond.methodLink RL 88 yX11_tread ∈ jT := jT_mem (mt_4 (List.mem_of_getElem? (i := 131) rfl)) rfl
theorem W_1283 : Cond.instanceMethod yX11_tread ∈ jT := jT_mem (mt_4 (List.mem_of_getElem? (i := 132) rfl)) rfl
theorem W_1284 : Cond.selects RX11 yX11_tread yX11_tread ∈ jT := jT_mem (mt_4 (List.mem_of_getElem? (i := 133) rfl)) rfl
theorem W_1285 : Cond.code yX12_tread cX12_tread 8 (some .int) ∈ jT := jT_mem (mt_8 (List.mem_of_getElem? (i := 155) rfl)) rfl
theorem W_1286 : Cond.methodLink RL 91 yX12_tread ∈ jT := jT_mem (mt_8 (List.mem_of_getElem? (i := 152) rfl)) rfl
theorem W_1287 : Cond.instanceMethod yX12_tread ∈ jT := jT_mem (mt_8 (List.mem_of_getElem? (i := 153) rfl)) rfl
theorem W_1288 : Cond.selects RX12 yX12_tread yX12_tread ∈ jT := jT_mem (mt_8 (List.mem_of_getElem? (i := 154) rfl)) rfl
theorem W_1289 : Cond.code yX11_rests cX11_rests 5 (some .int) ∈ jT := jT_mem (mt_4 (List.mem_of_getElem? (i := 164) rfl)) rfl
theorem W_1290 : Cond.methodLink RL 92 yX11_rests ∈ jT := jT_mem (mt_4 (List.mem_of_getElem? (i := 161) rfl)) rfl
theorem W_1291 : Cond.instanceMethod yX11_rests ∈ jT := jT_mem (mt_4 (List.mem_of_getElem? (i := 162) rfl)) rfl
theorem W_1292 : Cond.selects RX11 yX11_rests yX11_rests ∈ jT := jT_mem (mt_4 (List.mem_of_getElem? (i := 163) rfl)) rfl
theorem W_1293 : Cond.code yX12_rests cX12_rests 5 (some .int) ∈ jT := jT_mem (mt_8 (List.mem_of_getElem? (i := 172) rfl)) rfl
theorem W_1294 : Cond.methodLink RL 95 yX12_rests ∈ jT := jT_mem (mt_8 (List.mem_of_getElem? (i := 169) rfl)) rfl
theorem W_1295 : Cond.instanceMethod yX12_rests ∈ jT := jT_mem (mt_8 (List.mem_of_getElem? (i := 170) rfl)) rfl
theorem W_1296 : Cond.selects RX12 yX12_rests yX12_rests ∈ jT := jT_mem (mt_8 (List.mem_of_getElem? (i := 171) rfl)) rfl
theorem W_1297 : Cond.code yX11_returns cX11_returns 4 (some .int) ∈ jT := jT_mem (mt_4 (List.mem_of_getElem? (i := 168) rfl)) rfl
theorem W_1298 : Cond.methodLink RL 96 yX11_returns ∈ jT := jT_mem (mt_4 (List.mem_of_getElem? (i := 165) rfl)) rfl
theorem W_1299 : Cond.instanceMethod yX11_returns ∈ jT := jT_mem (mt_4 (List.mem_of_getElem? (i := 166) rfl)) rfl
theorem W_1300 : Cond.selects RX11 yX11_returns yX11_returns ∈ jT := jT_mem (mt_4 (List.mem_of_getElem? (i := 167) rfl)) rfl
theorem W_1301 : Cond.code yX12_returns cX12_returns 3 (some .int) ∈ jT := jT_mem (mt_8 (List.mem_of_getElem? (i := 176) rfl)) rfl
theorem W_1302 : Cond.methodLink RL 99 yX12_returns ∈ jT := jT_mem (mt_8 (List.mem_of_getElem? (i := 173) rfl)) rfl
theorem W_1303 : Cond.instanceMethod yX12_returns ∈ jT := jT_mem (mt_8 (List.mem_of_getElem? (i := 174) rfl)) rfl
theorem W_1304 : Cond.selects RX12 yX12_returns yX12_returns ∈ jT := jT_mem (mt_8 (List.mem_of_getElem? (i := 175) rfl)) rfl
theorem W_1305 : Cond.code yX11_earned cX11_earned 2 (some .int) ∈ jT := jT_mem (mt_4 (List.mem_of_getElem? (i := 172) rfl)) rfl
theorem W_1306 : Cond.methodLink RL 100 yX11_earned ∈ jT := jT_mem (mt_4 (List.mem_of_getElem? (i := 169) rfl)) rfl
theorem W_1307 : Cond.instanceMethod yX11_earned ∈ jT := jT_mem (mt_4 (List.mem_of_getElem? (i := 170) rfl)) rfl
theorem W_1308 : Cond.selects RX11 yX11_earned yX11_earned ∈ jT := jT_mem (mt_4 (List.mem_of_getElem? (i := 171) rfl)) rfl
theorem W_1309 : Cond.code yX12_earned cX12_earned 4 (some .int) ∈ jT := jT_mem (mt_8 (List.mem_of_getElem? (i := 180) rfl)) rfl
theorem W_1310 : Cond.methodLink RL 103 yX12_earned ∈ jT := jT_mem (mt_8 (List.mem_of_getElem? (i := 177) rfl)) rfl
theorem W_1311 : Cond.instanceMethod yX12_earned ∈ jT := jT_mem (mt_8 (List.mem_of_getElem? (i := 178) rfl)) rfl
theorem W_1312 : Cond.selects RX12 yX12_earned yX12_earned ∈ jT := jT_mem (mt_8 (List.mem_of_getElem? (i := 179) rfl)) rfl
theorem W_1313 : Cond.code yX11_climb cX11_climb 6 (some .int) ∈ jT := jT_mem (mt_4 (List.mem_of_getElem? (i := 180) rfl)) rfl
theorem W_1314 : Cond.methodLink RL 104 yX11_climb ∈ jT := jT_mem (mt_4 (List.mem_of_getElem? (i := 177) rfl)) rfl
theorem W_1315 : Cond.instanceMethod yX11_climb ∈ jT := jT_mem (mt_4 (List.mem_of_getElem? (i := 178) rfl)) rfl
theorem W_1316 : Cond.selects RX11 yX11_climb yX11_climb ∈ jT := jT_mem (mt_4 (List.mem_of_getElem? (i := 179) rfl)) rfl
theorem W_1317 : Cond.code yX12_climb cX12_climb 3 (some .int) ∈ jT := jT_mem (mt_8 (List.mem_of_getElem? (i := 184) rfl)) rfl
theorem W_1318 : Cond.methodLink RL 107 yX12_climb ∈ jT := jT_mem (mt_8 (List.mem_of_getElem? (i := 181) rfl)) rfl
theorem W_1319 : Cond.instanceMethod yX12_climb ∈ jT := jT_mem (mt_8 (List.mem_of_getElem? (i := 182) rfl)) rfl
theorem W_1320 : Cond.selects RX12 yX12_climb yX12_climb ∈ jT := jT_mem (mt_8 (List.mem_of_getElem? (i := 183) rfl)) rfl
theorem W_1321 : Cond.code yX11_knees cX11_knees 5 (some .int) ∈ jT := jT_mem (mt_5 (List.mem_of_getElem? (i := 57) rfl)) rfl
theorem W_1322 : Cond.methodLink RL 108 yX11_knees ∈ jT := jT_mem (mt_5 (List.mem_of_getElem? (i := 54) rfl)) rfl
theorem W_1323 : Cond.instanceMethod yX11_knees ∈ jT := jT_mem (mt_5 (List.mem_of_getElem? (i := 55) rfl)) rfl
theorem W_1324 : Cond.selects RX11 yX11_knees yX11_knees ∈ jT := jT_mem (mt_5 (List.mem_of_getElem? (i := 56) rfl)) rfl
theorem W_1325 : Cond.code yX12_knees cX12_knees 3 (some .int) ∈ jT := jT_mem (mt_8 (List.mem_of_getElem? (i := 205) rfl)) rfl
theorem W_1326 : Cond.methodLink RL 111 yX12_knees ∈ jT := jT_mem (mt_8 (List.mem_of_getElem? (i := 202) rfl)) rfl
theorem W_1327 : Cond.instanceMethod yX12_knees ∈ jT := jT_mem (mt_8 (List.mem_of_getElem? (i := 203) rfl)) rfl
theorem W_1328 : Cond.selects RX12 yX12_knees yX12_knees ∈ jT := jT_mem (mt_8 (List.mem_of_getElem? (i := 204) rfl)) rfl
theorem W_1329 : Cond.code yX11_ways cX11_ways 6 (some .long) ∈ jT := jT_mem (mt_5 (List.mem_of_getElem? (i := 72) rfl)) rfl
theorem W_1330 : Cond.methodLink RL 112 yX11_ways ∈ jT := jT_mem (mt_5 (List.mem_of_getElem? (i := 69) rfl)) rfl
theorem W_1331 : Cond.instanceMethod yX11_ways ∈ jT := jT_mem (mt_5 (List.mem_of_getElem? (i := 70) rfl)) rfl
theorem W_1332 : Cond.selects RX11 yX11_ways yX11_ways ∈ jT := jT_mem (mt_5 (List.mem_of_getElem? (i := 71) rfl)) rfl
theorem W_1333 : Cond.code yX12_ways cX12_ways 4 (some .long) ∈ jT := jT_mem (mt_8 (List.mem_of_getElem? (i := 209) rfl)) rfl
theorem W_1334 : Cond.methodLink RL 116 yX12_ways ∈ jT := jT_mem (mt_8 (List.mem_of_getElem? (i := 206) rfl)) rfl
theorem W_1335 : Cond.instanceMethod yX12_ways ∈ jT := jT_mem (mt_8 (List.mem_of_getElem? (i := 207) rfl)) rfl
theorem W_1336 : Cond.selects RX12 yX12_ways yX12_ways ∈ jT := jT_mem (mt_8 (List.mem_of_getElem? (i := 208) rfl)) rfl
theorem W_1337 : Cond.code yX11_trod cX11_trod 7 (some .int) ∈ jT := jT_mem (mt_5 (List.mem_of_getElem? (i := 112) rfl)) rfl
theorem W_1338 : Cond.methodLink RL 117 yX11_trod ∈ jT := jT_mem (mt_5 (List.mem_of_getElem? (i := 109) rfl)) rfl
theorem W_1339 : Cond.instanceMethod yX11_trod ∈ jT := jT_mem (mt_5 (List.mem_of_getElem? (i := 110) rfl)) rfl
theorem W_1340 : Cond.selects RX11 yX11_trod yX11_trod ∈ jT := jT_mem (mt_5 (List.mem_of_getElem? (i := 111) rfl)) rfl
theorem W_1341 : Cond.code yX12_trod cX12_trod 6 (some .int) ∈ jT := jT_mem (mt_8 (List.mem_of_getElem? (i := 220) rfl)) rfl
theorem W_1342 : Cond.methodLink RL 120 yX12_trod ∈ jT := jT_mem (mt_8 (List.mem_of_getElem? (i := 217) rfl)) rfl
theorem W_1343 : Cond.instanceMethod yX12_trod ∈ jT := jT_mem (mt_8 (List.mem_of_getElem? (i := 218) rfl)) rfl
theorem W_1344 : Cond.selects RX12 yX12_trod yX12_trod ∈ jT := jT_mem (mt_8 (List.mem_of_getElem? (i := 219) rfl)) rfl
theorem W_1345 : Cond.code yX11_who cX11_who 6 (some .int) ∈ jT := jT_mem (mt_5 (List.mem_of_getElem? (i := 120) rfl)) rfl
theorem W_1346 : Cond.methodLink RL 121 yX11_who ∈ jT := jT_mem (mt_5 (List.mem_of_getElem? (i := 117) rfl)) rfl
theorem W_1347 : Cond.instanceMethod yX11_who ∈ jT := jT_mem (mt_5 (List.mem_of_getElem? (i := 118) rfl)) rfl
theorem W_1348 : Cond.selects RX11 yX11_who yX11_who ∈ jT := jT_mem (mt_5 (List.mem_of_getElem? (i := 119) rfl)) rfl
theorem W_1349 : Cond.code yX12_who cX12_who 5 (some .int) ∈ jT := jT_mem (mt_8 (List.mem_of_getElem? (i := 232) rfl)) rfl
theorem W_1350 : Cond.methodLink RL 124 yX12_who ∈ jT := jT_mem (mt_8 (List.mem_of_getElem? (i := 229) rfl)) rfl
theorem W_1351 : Cond.instanceMethod yX12_who ∈ jT := jT_mem (mt_8 (List.mem_of_getElem? (i := 230) rfl)) rfl
theorem W_1352 : Cond.selects RX12 yX12_who yX12_who ∈ jT := jT_mem (mt_8 (List.mem_of_getElem? (i := 231) rfl)) rfl
theorem W_1353 : Cond.code yX11_next cX11_next 6 (some .int) ∈ jT := jT_mem (mt_5 (List.mem_of_getElem? (i := 124) rfl)) rfl
theorem W_1354 : Cond.methodLink RL 125 yX11_next ∈ jT := jT_mem (mt_5 (List.mem_of_getElem? (i := 121) rfl)) rfl
theorem W_1355 : Cond.instanceMethod yX11_next ∈ jT := jT_mem (mt_5 (List.mem_of_getElem? (i := 122) rfl)) rfl
theorem W_1356 : Cond.selects RX11 yX11_next yX11_next ∈ jT := jT_mem (mt_5 (List.mem_of_getElem? (i := 123) rfl)) rfl
theorem W_1357 : Cond.code yX12_next cX12_next 4 (some .int) ∈ jT := jT_mem (mt_8 (List.mem_of_getElem? (i := 236) rfl)) rfl
theorem W_1358 : Cond.methodLink RL 128 yX12_next ∈ jT := jT_mem (mt_8 (List.mem_of_getElem? (i := 233) rfl)) rfl
theorem W_1359 : Cond.instanceMethod yX12_next ∈ jT := jT_mem (mt_8 (List.mem_of_getElem? (i := 234) rfl)) rfl
theorem W_1360 : Cond.selects RX12 yX12_next yX12_next ∈ jT := jT_mem (mt_8 (List.mem_of_getElem? (i := 235) rfl)) rfl
theorem W_1361 : Cond.code yX11_bears cX11_bears 6 (some .int) ∈ jT := jT_mem (mt_5 (List.mem_of_getElem? (i := 137) rfl)) rfl
theorem W_1362 : Cond.methodLink RL 129 yX11_bears ∈ jT := jT_mem (mt_5 (List.mem_of_getElem? (i := 134) rfl)) rfl
theorem W_1363 : Cond.instanceMethod yX11_bears ∈ jT := jT_mem (mt_5 (List.mem_of_getElem? (i := 135) rfl)) rfl
theorem W_1364 : Cond.selects RX11 yX11_bears yX11_bears ∈ jT := jT_mem (mt_5 (List.mem_of_getElem? (i := 136) rfl)) rfl
theorem W_1365 : Cond.code yX12_bears cX12_bears 5 (some .int) ∈ jT := jT_mem (mt_9 (List.mem_of_getElem? (i := 4) rfl)) rfl
theorem W_1366 : Cond.methodLink RL 132 yX12_bears ∈ jT := jT_mem (mt_9 (List.mem_of_getElem? (i := 1) rfl)) rfl
theorem W_1367 : Cond.instanceMethod yX12_bears ∈ jT := jT_mem (mt_9 (List.mem_of_getElem? (i := 2) rfl)) rfl
theorem W_1368 : Cond.selects RX12 yX12_bears yX12_bears ∈ jT := jT_mem (mt_9 (List.mem_of_getElem? (i := 3) rfl)) rfl
theorem W_1369 : Cond.code yX11_breaks cX11_breaks 8 (some .int) ∈ jT := jT_mem (mt_5 (List.mem_of_getElem? (i := 141) rfl)) rfl
theorem W_1370 : Cond.methodLink RL 133 yX11_breaks ∈ jT := jT_mem (mt_5 (List.mem_of_getElem? (i := 138) rfl)) rfl
theorem W_1371 : Cond.instanceMethod yX11_breaks ∈ jT := jT_mem (mt_5 (List.mem_of_getElem? (i := 139) rfl)) rfl
theorem W_1372 : Cond.selects RX11 yX11_breaks yX11_breaks ∈ jT := jT_mem (mt_5 (List.mem_of_getElem? (i := 140) rfl)) rfl
theorem W_1373 : Cond.code yX12_breaks cX12_breaks 7 (some .int) ∈ jT := jT_mem (mt_9 (List.mem_of_getElem? (i := 8) rfl)) rfl
theorem W_1374 : Cond.methodLink RL 136 yX12_breaks ∈ jT := jT_mem (mt_9 (List.mem_of_getElem? (i := 5) rfl)) rfl
theorem W_1375 : Cond.instanceMethod yX12_breaks ∈ jT := jT_mem (mt_9 (List.mem_of_getElem? (i := 6) rfl)) rfl
theorem W_1376 : Cond.selects RX12 yX12_breaks yX12_breaks ∈ jT := jT_mem (mt_9 (List.mem_of_getElem? (i := 7) rfl)) rfl
theorem W_1377 : Cond.code yX11_all cX11_all 1 (some .int) ∈ jT := jT_mem (mt_5 (List.mem_of_getElem? (i := 145) rfl)) rfl
theorem W_1378 : Cond.methodLink RL 137 yX11_all ∈ jT := jT_mem (mt_5 (List.mem_of_getElem? (i := 142) rfl)) rfl
theorem W_1379 : Cond.instanceMethod yX11_all ∈ jT := jT_mem (mt_5 (List.mem_of_getElem? (i := 143) rfl)) rfl
theorem W_1380 : Cond.selects RX11 yX11_all yX11_all ∈ jT := jT_mem (mt_5 (List.mem_of_getElem? (i := 144) rfl)) rfl
theorem W_1381 : Cond.code yX12_all cX12_all 1 (some .int) ∈ jT := jT_mem (mt_9 (List.mem_of_getElem? (i := 12) rfl)) rfl
theorem W_1382 : Cond.methodLink RL 140 yX12_all ∈ jT := jT_mem (mt_9 (List.mem_of_getElem? (i := 9) rfl)) rfl
theorem W_1383 : Cond.instanceMethod yX12_all ∈ jT := jT_mem (mt_9 (List.mem_of_getElem? (i := 10) rfl)) rfl
theorem W_1384 : Cond.selects RX12 yX12_all yX12_all ∈ jT := jT_mem (mt_9 (List.mem_of_getElem? (i := 11) rfl)) rfl
theorem W_1385 : Cond.code yX11_whole cX11_whole 3 (some .int) ∈ jT := jT_mem (mt_5 (List.mem_of_getElem? (i := 153) rfl)) rfl
theorem W_1386 : Cond.methodLink RL 141 yX11_whole ∈ jT := jT_mem (mt_5 (List.mem_of_getElem? (i := 150) rfl)) rfl
theorem W_1387 : Cond.instanceMethod yX11_whole ∈ jT := jT_mem (mt_5 (List.mem_of_getElem? (i := 151) rfl)) rfl
theorem W_1388 : Cond.selects RX11 yX11_whole yX11_whole ∈ jT := jT_mem (mt_5 (List.mem_of_getElem? (i := 152) rfl)) rfl
theorem W_1389 : Cond.code yX12_whole cX12_whole 6 (some .int) ∈ jT := jT_mem (mt_9 (List.mem_of_getElem? (i := 20) rfl)) rfl
theorem W_1390 : Cond.methodLink RL 144 yX12_whole ∈ jT := jT_mem (mt_9 (List.mem_of_getElem? (i := 17) rfl)) rfl
theorem W_1391 : Cond.instanceMethod yX12_whole ∈ jT := jT_mem (mt_9 (List.mem_of_getElem? (i := 18) rfl)) rfl
theorem W_1392 : Cond.selects RX12 yX12_whole yX12_whole ∈ jT := jT_mem (mt_9 (List.mem_of_getElem? (i := 19) rfl)) rfl
theorem W_1393 : Cond.code yX11_mends cX11_mends 3 (some .int) ∈ jT := jT_mem (mt_5 (List.mem_of_getElem? (i := 161) rfl)) rfl
theorem W_1394 : Cond.methodLink RL 145 yX11_mends ∈ jT := jT_mem (mt_5 (List.mem_of_getElem? (i := 158) rfl)) rfl
theorem W_1395 : Cond.instanceMethod yX11_mends ∈ jT := jT_mem (mt_5 (List.mem_of_getElem? (i := 159) rfl)) rfl
theorem W_1396 : Cond.selects RX11 yX11_mends yX11_mends ∈ jT := jT_mem (mt_5 (List.mem_of_getElem? (i := 160) rfl)) rfl
theorem W_1397 : Cond.code yX12_mends cX12_mends 3 (some .int) ∈ jT := jT_mem (mt_9 (List.mem_of_getElem? (i := 32) rfl)) rfl
theorem W_1398 : Cond.methodLink RL 148 yX12_mends ∈ jT := jT_mem (mt_9 (List.mem_of_getElem? (i := 29) rfl)) rfl
theorem W_1399 : Cond.instanceMethod yX12_mends ∈ jT := jT_mem (mt_9 (List.mem_of_getElem? (i := 30) rfl)) rfl
theorem W_1400 : Cond.selects RX12 yX12_mends yX12_mends ∈ jT := jT_mem (mt_9 (List.mem_of_getElem? (i := 31) rfl)) rfl
theorem W_1401 : Cond.code yX11_shut cX11_shut 2 (some .int) ∈ jT := jT_mem (mt_5 (List.mem_of_getElem? (i := 165) rfl)) rfl
theorem W_1402 : Cond.methodLink RL 149 yX11_shut ∈ jT := jT_mem (mt_5 (List.mem_of_getElem? (i := 162) rfl)) rfl
theorem W_1403 : Cond.instanceMethod yX11_shut ∈ jT := jT_mem (mt_5 (List.mem_of_getElem? (i := 163) rfl)) rfl
theorem W_1404 : Cond.selects RX11 yX11_shut yX11_shut ∈ jT := jT_mem (mt_5 (List.mem_of_getElem? (i := 164) rfl)) rfl
theorem W_1405 : Cond.code yX12_shut cX12_shut 5 (some .int) ∈ jT := jT_mem (mt_9 (List.mem_of_getElem? (i := 28) rfl)) rfl
theorem W_1406 : Cond.methodLink RL 152 yX12_shut ∈ jT := jT_mem (mt_9 (List.mem_of_getElem? (i := 25) rfl)) rfl
theorem W_1407 : Cond.instanceMethod yX12_shut ∈ jT := jT_mem (mt_9 (List.mem_of_getElem? (i := 26) rfl)) rfl
theorem W_1408 : Cond.selects RX12 yX12_shut yX12_shut ∈ jT := jT_mem (mt_9 (List.mem_of_getElem? (i := 27) rfl)) rfl
theorem W_1409 : Cond.code yX11_toll cX11_toll 4 (some .int) ∈ jT := jT_mem (mt_5 (List.mem_of_getElem? (i := 169) rfl)) rfl
theorem W_1410 : Cond.methodLink RL 153 yX11_toll ∈ jT := jT_mem (mt_5 (List.mem_of_getElem? (i := 166) rfl)) rfl
theorem W_1411 : Cond.instanceMethod yX11_toll ∈ jT := jT_mem (mt_5 (List.mem_of_getElem? (i := 167) rfl)) rfl
theorem W_1412 : Cond.selects RX11 yX11_toll yX11_toll ∈ jT := jT_mem (mt_5 (List.mem_of_getElem? (i := 168) rfl)) rfl
theorem W_1413 : Cond.code yX12_toll cX12_toll 5 (some .int) ∈ jT := jT_mem (mt_9 (List.mem_of_getElem? (i := 36) rfl)) rfl
theorem W_1414 : Cond.methodLink RL 156 yX12_toll ∈ jT := jT_mem (mt_9 (List.mem_of_getElem? (i := 33) rfl)) rfl
theorem W_1415 : Cond.instanceMethod yX12_toll ∈ jT := jT_mem (mt_9 (List.mem_of_getElem? (i := 34) rfl)) rfl
theorem W_1416 : Cond.selects RX12 yX12_toll yX12_toll ∈ jT := jT_mem (mt_9 (List.mem_of_getElem? (i := 35) rfl)) rfl
theorem W_1417 : Cond.code yX11_peace cX11_peace 6 (some .int) ∈ jT := jT_mem (mt_5 (List.mem_of_getElem? (i := 226) rfl)) rfl
theorem W_1418 : Cond.methodLink RL 157 yX11_peace ∈ jT := jT_mem (mt_5 (List.mem_of_getElem? (i := 223) rfl)) rfl
theorem W_1419 : Cond.instanceMethod yX11_peace ∈ jT := jT_mem (mt_5 (List.mem_of_getElem? (i := 224) rfl)) rfl
theorem W_1420 : Cond.selects RX11 yX11_peace yX11_peace ∈ jT := jT_mem (mt_5 (List.mem_of_getElem? (i := 225) rfl)) rfl
theorem W_1421 : Cond.code yX12_peace cX12_peace 7 (some .int) ∈ jT := jT_mem (mt_9 (List.mem_of_getElem? (i := 40) rfl)) rfl
theorem W_1422 : Cond.methodLink RL 160 yX12_peace ∈ jT := jT_mem (mt_9 (List.mem_of_getElem? (i := 37) rfl)) rfl
theorem W_1423 : Cond.instanceMethod yX12_peace ∈ jT := jT_mem (mt_9 (List.mem_of_getElem? (i := 38) rfl)) rfl
theorem W_1424 : Cond.selects RX12 yX12_peace yX12_peace ∈ jT := jT_mem (mt_9 (List.mem_of_getElem? (i := 39) rfl)) rfl
theorem W_1425 : Cond.code yX11_lamps cX11_lamps 3 (some .int) ∈ jT := jT_mem (mt_5 (List.mem_of_getElem? (i := 236) rfl)) rfl
theorem W_1426 : Cond.methodLink RL 161 yX11_lamps ∈ jT := jT_mem (mt_5 (List.mem_of_getElem? (i := 233) rfl)) rfl
theorem W_1427 : Cond.instanceMethod yX11_lamps ∈ jT := jT_mem (mt_5 (List.mem_of_getElem? (i := 234) rfl)) rfl
theorem W_1428 : Cond.selects RX11 yX11_lamps yX11_lamps ∈ jT := jT_mem (mt_5 (List.mem_of_getElem? (i := 235) rfl)) rfl
theorem W_1429 : Cond.code yX12_lamps cX12_lamps 5 (some .int) ∈ jT := jT_mem (mt_9 (List.mem_of_getElem? (i := 44) rfl)) rfl
theorem W_1430 : Cond.methodLink RL 164 yX12_lamps ∈ jT := jT_mem (mt_9 (List.mem_of_getElem? (i := 41) rfl)) rfl
theorem W_1431 : Cond.instanceMethod yX12_lamps ∈ jT := jT_mem (mt_9 (List.mem_of_getElem? (i := 42) rfl)) rfl
theorem W_1432 : Cond.selects RX12 yX12_lamps yX12_lamps ∈ jT := jT_mem (mt_9 (List.mem_of_getElem? (i := 43) rfl)) rfl
theorem W_1433 : Cond.code yX11_would cX11_would 3 (some .int) ∈ jT := jT_mem (mt_6 (List.mem_of_getElem? (i := 0) rfl)) rfl
theorem W_1434 : Cond.methodLink RL 165 yX11_would ∈ jT := jT_mem (mt_5 (List.mem_of_getElem? (i := 237) rfl)) rfl
theorem W_1435 : Cond.instanceMethod yX11_would ∈ jT := jT_mem (mt_5 (List.mem_of_getElem? (i := 238) rfl)) rfl
theorem W_1436 : Cond.selects RX11 yX11_would yX11_would ∈ jT := jT_mem (mt_5 (List.mem_of_getElem? (i := 239) rfl)) rfl
theorem W_1437 : Cond.code yX12_would cX12_would 3 (some .int) ∈ jT := jT_mem (mt_9 (List.mem_of_getElem? (i := 48) rfl)) rfl
theorem W_1438 : Cond.methodLink RL 168 yX12_would ∈ jT := jT_mem (mt_9 (List.mem_of_getElem? (i := 45) rfl)) rfl
theorem W_1439 : Cond.instanceMethod yX12_would ∈ jT := jT_mem (mt_9 (List.mem_of_getElem? (i := 46) rfl)) rfl
theorem W_1440 : Cond.selects RX12 yX12_would yX12_would ∈ jT := jT_mem (mt_9 (List.mem_of_getElem? (i := 47) rfl)) rfl
theorem W_1441 : Cond.code yX11_best cX11_best 3 (some .int) ∈ jT := jT_mem (mt_6 (List.mem_of_getElem? (i := 5) rfl)) rfl
theorem W_1442 : Cond.methodLink RL 169 yX11_best ∈ jT := jT_mem (mt_6 (List.mem_of_getElem? (i := 2) rfl)) rfl
theorem W_1443 : Cond.instanceMethod yX11_best ∈ jT := jT_mem (mt_6 (List.mem_of_getElem? (i := 3) rfl)) rfl
theorem W_1444 : Cond.selects RX11 yX11_best yX11_best ∈ jT := jT_mem (mt_6 (List.mem_of_getElem? (i := 4) rfl)) rfl
theorem W_1445 : Cond.code yX12_best cX12_best 3 (some .int) ∈ jT := jT_mem (mt_9 (List.mem_of_getElem? (i := 56) rfl)) rfl
theorem W_1446 : Cond.methodLink RL 172 yX12_best ∈ jT := jT_mem (mt_9 (List.mem_of_getElem? (i := 53) rfl)) rfl
theorem W_1447 : Cond.instanceMethod yX12_best ∈ jT := jT_mem (mt_9 (List.mem_of_getElem? (i := 54) rfl)) rfl
theorem W_1448 : Cond.selects RX12 yX12_best yX12_best ∈ jT := jT_mem (mt_9 (List.mem_of_getElem? (i := 55) rfl)) rfl
theorem W_1449 : Cond.code yX11_market cX11_market 5 (some .int) ∈ jT := jT_mem (mt_6 (List.mem_of_getElem? (i := 13) rfl)) rfl
theorem W_1450 : Cond.methodLink RL 173 yX11_market ∈ jT := jT_mem (mt_6 (List.mem_of_getElem? (i := 10) rfl)) rfl
theorem W_1451 : Cond.instanceMethod yX11_market ∈ jT := jT_mem (mt_6 (List.mem_of_getElem? (i := 11) rfl)) rfl
theorem W_1452 : Cond.selects RX11 yX11_market yX11_market ∈ jT := jT_mem (mt_6 (List.mem_of_getElem? (i := 12) rfl)) rfl
theorem W_1453 : Cond.code yX12_market cX12_market 8 (some .int) ∈ jT := jT_mem (mt_9 (List.mem_of_getElem? (i := 64) rfl)) rfl
theorem W_1454 : Cond.methodLink RL 176 yX12_market ∈ jT := jT_mem (mt_9 (List.mem_of_getElem? (i := 61) rfl)) rfl
theorem W_1455 : Cond.instanceMethod yX12_market ∈ jT := jT_mem (mt_9 (List.mem_of_getElem? (i := 62) rfl)) rfl
theorem W_1456 : Cond.selects RX12 yX12_market yX12_market ∈ jT := jT_mem (mt_9 (List.mem_of_getElem? (i := 63) rfl)) rfl
theorem W_1457 : Cond.code yX11_parts cX11_parts 3 (some .int) ∈ jT := jT_mem (mt_6 (List.mem_of_getElem? (i := 31) rfl)) rfl
theorem W_1458 : Cond.methodLink RL 177 yX11_parts ∈ jT := jT_mem (mt_6 (List.mem_of_getElem? (i := 28) rfl)) rfl
theorem W_1459 : Cond.instanceMethod yX11_parts ∈ jT := jT_mem (mt_6 (List.mem_of_getElem? (i := 29) rfl)) rfl
theorem W_1460 : Cond.selects RX11 yX11_parts yX11_parts ∈ jT := jT_mem (mt_6 (List.mem_of_getElem? (i := 30) rfl)) rfl
theorem W_1461 : Cond.code yX12_parts cX12_parts 3 (some .int) ∈ jT := jT_mem (mt_9 (List.mem_of_getElem? (i := 68) rfl)) rfl
theorem W_1462 : Cond.methodLink RL 180 yX12_parts ∈ jT := jT_mem (mt_9 (List.mem_of_getElem? (i := 65) rfl)) rfl
theorem W_1463 : Cond.instanceMethod yX12_parts ∈ jT := jT_mem (mt_9 (List.mem_of_getElem? (i := 66) rfl)) rfl
theorem W_1464 : Cond.selects RX12 yX12_parts yX12_parts ∈ jT := jT_mem (mt_9 (List.mem_of_getElem? (i := 67) rfl)) rfl
theorem W_1465 : Cond.code yX11_sells cX11_sells 7 (some .int) ∈ jT := jT_mem (mt_6 (List.mem_of_getElem? (i := 36) rfl)) rfl
theorem W_1466 : Cond.methodLink RL 181 yX11_sells ∈ jT := jT_mem (mt_6 (List.mem_of_getElem? (i := 33) rfl)) rfl
theorem W_1467 : Cond.instanceMethod yX11_sells ∈ jT := jT_mem (mt_6 (List.mem_of_getElem? (i := 34) rfl)) rfl
theorem W_1468 : Cond.selects RX11 yX11_sells yX11_sells ∈ jT := jT_mem (mt_6 (List.mem_of_getElem? (i := 35) rfl)) rfl
theorem W_1469 : Cond.code yX12_sells cX12_sells 8 (some .int) ∈ jT := jT_mem (mt_9 (List.mem_of_getElem? (i := 72) rfl)) rfl
theorem W_1470 : Cond.methodLink RL 185 yX12_sells ∈ jT := jT_mem (mt_9 (List.mem_of_getElem? (i := 69) rfl)) rfl
theorem W_1471 : Cond.instanceMethod yX12_sells ∈ jT := jT_mem (mt_9 (List.mem_of_getElem? (i := 70) rfl)) rfl
theorem W_1472 : Cond.selects RX12 yX12_sells yX12_sells ∈ jT := jT_mem (mt_9 (List.mem_of_getElem? (i := 71) rfl)) rfl
theorem W_1473 : Cond.code yX11_dies cX11_dies 5 (some .int) ∈ jT := jT_mem (mt_6 (List.mem_of_getElem? (i := 49) rfl)) rfl
theorem W_1474 : Cond.methodLink RL 186 yX11_dies ∈ jT := jT_mem (mt_6 (List.mem_of_getElem? (i := 46) rfl)) rfl
theorem W_1475 : Cond.instanceMethod yX11_dies ∈ jT := jT_mem (mt_6 (List.mem_of_getElem? (i := 47) rfl)) rfl
theorem W_1476 : Cond.selects RX11 yX11_dies yX11_dies ∈ jT := jT_mem (mt_6 (List.mem_of_getElem? (i := 48) rfl)) rfl
theorem W_1477 : Cond.code yX12_dies cX12_dies 9 (some .int) ∈ jT := jT_mem (mt_9 (List.mem_of_getElem? (i := 80) rfl)) rfl
theorem W_1478 : Cond.methodLink RL 189 yX12_dies ∈ jT := jT_mem (mt_9 (List.mem_of_getElem? (i := 77) rfl)) rfl
theorem W_1479 : Cond.instanceMethod yX12_dies ∈ jT := jT_mem (mt_9 (List.mem_of_getElem? (i := 78) rfl)) rfl
theorem W_1480 : Cond.selects RX12 yX12_dies yX12_dies ∈ jT := jT_mem (mt_9 (List.mem_of_getElem? (i := 79) rfl)) rfl
theorem W_1481 : Cond.code yX11_undo cX11_undo 1 (some .int) ∈ jT := jT_mem (mt_6 (List.mem_of_getElem? (i := 64) rfl)) rfl
theorem W_1482 : Cond.methodLink RL 190 yX11_undo ∈ jT := jT_mem (mt_6 (List.mem_of_getElem? (i := 61) rfl)) rfl
theorem W_1483 : Cond.instanceMethod yX11_undo ∈ jT := jT_mem (mt_6 (List.mem_of_getElem? (i := 62) rfl)) rfl
theorem W_1484 : Cond.selects RX11 yX11_undo yX11_undo ∈ jT := jT_mem (mt_6 (List.mem_of_getElem? (i := 63) rfl)) rfl
theorem W_1485 : Cond.code yX12_undo cX12_undo 2 (some .int) ∈ jT := jT_mem (mt_9 (List.mem_of_getElem? (i := 85) rfl)) rfl
theorem W_1486 : Cond.methodLink RL 193 yX12_undo ∈ jT := jT_mem (mt_9 (List.mem_of_getElem? (i := 82) rfl)) rfl
theorem W_1487 : Cond.instanceMethod yX12_undo ∈ jT := jT_mem (mt_9 (List.mem_of_getElem? (i := 83) rfl)) rfl
theorem W_1488 : Cond.selects RX12 yX12_undo yX12_undo ∈ jT := jT_mem (mt_9 (List.mem_of_getElem? (i := 84) rfl)) rfl
theorem W_1489 : Cond.code yX11_rail cX11_rail 4 (some .int) ∈ jT := jT_mem (mt_6 (List.mem_of_getElem? (i := 72) rfl)) rfl
theorem W_1490 : Cond.methodLink RL 194 yX11_rail ∈ jT := jT_mem (mt_6 (List.mem_of_getElem? (i := 69) rfl)) rfl
theorem W_1491 : Cond.instanceMethod yX11_rail ∈ jT := jT_mem (mt_6 (List.mem_of_getElem? (i := 70) rfl)) rfl
theorem W_1492 : Cond.selects RX11 yX11_rail yX11_rail ∈ jT := jT_mem (mt_6 (List.mem_of_getElem? (i := 71) rfl)) rfl
theorem W_1493 : Cond.code yX12_rail cX12_rail 4 (some .int) ∈ jT := jT_mem (mt_9 (List.mem_of_getElem? (i := 89) rfl)) rfl
theorem W_1494 : Cond.methodLink RL 197 yX12_rail ∈ jT := jT_mem (mt_9 (List.mem_of_getElem? (i := 86) rfl)) rfl
theorem W_1495 : Cond.instanceMethod yX12_rail ∈ jT := jT_mem (mt_9 (List.mem_of_getElem? (i := 87) rfl)) rfl
theorem W_1496 : Cond.selects RX12 yX12_rail yX12_rail ∈ jT := jT_mem (mt_9 (List.mem_of_getElem? (i := 88) rfl)) rfl
theorem W_1497 : Cond.code yX11_rules cX11_rules 4 (some .int) ∈ jT := jT_mem (mt_6 (List.mem_of_getElem? (i := 81) rfl)) rfl
theorem W_1498 : Cond.methodLink RL 198 yX11_rules ∈ jT := jT_mem (mt_6 (List.mem_of_getElem? (i := 78) rfl)) rfl
theorem W_1499 : Cond.instanceMethod yX11_rules ∈ jT := jT_mem (mt_6 (List.mem_of_getElem? (i := 79) rfl)) rfl
theorem W_1500 : Cond.selects RX11 yX11_rules yX11_rules ∈ jT := jT_mem (mt_6 (List.mem_of_getElem? (i := 80) rfl)) rfl
theorem W_1501 : Cond.code yX12_rules cX12_rules 7 (some .int) ∈ jT := jT_mem (mt_9 (List.mem_of_getElem? (i := 93) rfl)) rfl
theorem W_1502 : Cond.methodLink RL 201 yX12_rules ∈ jT := jT_mem (mt_9 (List.mem_of_getElem? (i := 90) rfl)) rfl
theorem W_1503 : Cond.instanceMethod yX12_rules ∈ jT := jT_mem (mt_9 (List.mem_of_getElem? (i := 91) rfl)) rfl
theorem W_1504 : Cond.selects RX12 yX12_rules yX12_rules ∈ jT := jT_mem (mt_9 (List.mem_of_getElem? (i := 92) rfl)) rfl
theorem W_1505 : Cond.code yX11_feast cX11_feast 3 (some .int) ∈ jT := jT_mem (mt_6 (List.mem_of_getElem? (i := 94) rfl)) rfl
theorem W_1506 : Cond.methodLink RL 202 yX11_feast ∈ jT := jT_mem (mt_6 (List.mem_of_getElem? (i := 91) rfl)) rfl
theorem W_1507 : Cond.instanceMethod yX11_feast ∈ jT := jT_mem (mt_6 (List.mem_of_getElem? (i := 92) rfl)) rfl
theorem W_1508 : Cond.selects RX11 yX11_feast yX11_feast ∈ jT := jT_mem (mt_6 (List.mem_of_getElem? (i := 93) rfl)) rfl
theorem W_1509 : Cond.code yX12_feast cX12_feast 6 (some .int) ∈ jT := jT_mem (mt_9 (List.mem_of_getElem? (i := 97) rfl)) rfl
theorem W_1510 : Cond.methodLink RL 205 yX12_feast ∈ jT := jT_mem (mt_9 (List.mem_of_getElem? (i := 94) rfl)) rfl
theorem W_1511 : Cond.instanceMethod yX12_feast ∈ jT := jT_mem (mt_9 (List.mem_of_getElem? (i := 95) rfl)) rfl
theorem W_1512 : Cond.selects RX12 yX12_feast yX12_feast ∈ jT := jT_mem (mt_9 (List.mem_of_getElem? (i := 96) rfl)) rfl
theorem W_1513 : Cond.code yX11_jam cX11_jam 3 (some .int) ∈ jT := jT_mem (mt_6 (List.mem_of_getElem? (i := 130) rfl)) rfl
theorem W_1514 : Cond.methodLink RL 206 yX11_jam ∈ jT := jT_mem (mt_6 (List.mem_of_getElem? (i := 127) rfl)) rfl
theorem W_1515 : Cond.instanceMethod yX11_jam ∈ jT := jT_mem (mt_6 (List.mem_of_getElem? (i := 128) rfl)) rfl
theorem W_1516 : Cond.selects RX11 yX11_jam yX11_jam ∈ jT := jT_mem (mt_6 (List.mem_of_getElem? (i := 129) rfl)) rfl
theorem W_1517 : Cond.code yX12_jam cX12_jam 3 (some .int) ∈ jT := jT_mem (mt_9 (List.mem_of_getElem? (i := 113) rfl)) rfl
theorem W_1518 : Cond.methodLink RL 209 yX12_jam ∈ jT := jT_mem (mt_9 (List.mem_of_getElem? (i := 110) rfl)) rfl
theorem W_1519 : Cond.instanceMethod yX12_jam ∈ jT := jT_mem (mt_9 (List.mem_of_getElem? (i := 111) rfl)) rfl
theorem W_1520 : Cond.selects RX12 yX12_jam yX12_jam ∈ jT := jT_mem (mt_9 (List.mem_of_getElem? (i := 112) rfl)) rfl
theorem W_1521 : Cond.code yX11_keep cX11_keep 5 (some .boolean) ∈ jT := jT_mem (mt_6 (List.mem_of_getElem? (i := 134) rfl)) rfl
theorem W_1522 : Cond.methodLink RL 210 yX11_keep ∈ jT := jT_mem (mt_6 (List.mem_of_getElem? (i := 131) rfl)) rfl
theorem W_1523 : Cond.instanceMethod yX11_keep ∈ jT := jT_mem (mt_6 (List.mem_of_getElem? (i := 132) rfl)) rfl
theorem W_1524 : Cond.selects RX11 yX11_keep yX11_keep ∈ jT := jT_mem (mt_6 (List.mem_of_getElem? (i := 133) rfl)) rfl
theorem W_1525 : Cond.code yX12_keep cX12_keep 3 (some .boolean) ∈ jT := jT_mem (mt_9 (List.mem_of_getElem? (i := 117) rfl)) rfl
theorem W_1526 : Cond.methodLink RL 213 yX12_keep ∈ jT := jT_mem (mt_9 (List.mem_of_getElem? (i := 114) rfl)) rfl
theorem W_1527 : Cond.instanceMethod yX12_keep ∈ jT := jT_mem (mt_9 (List.mem_of_getElem? (i := 115) rfl)) rfl
theorem W_1528 : Cond.selects RX12 yX12_keep yX12_keep ∈ jT := jT_mem (mt_9 (List.mem_of_getElem? (i := 116) rfl)) rfl
theorem W_1529 : Cond.code yX11_again cX11_again 5 (some .boolean) ∈ jT := jT_mem (mt_6 (List.mem_of_getElem? (i := 147) rfl)) rfl
theorem W_1530 : Cond.methodLink RL 214 yX11_again ∈ jT := jT_mem (mt_6 (List.mem_of_getElem? (i := 144) rfl)) rfl
theorem W_1531 : Cond.instanceMethod yX11_again ∈ jT := jT_mem (mt_6 (List.mem_of_getElem? (i := 145) rfl)) rfl
theorem W_1532 : Cond.selects RX11 yX11_again yX11_again ∈ jT := jT_mem (mt_6 (List.mem_of_getElem? (i := 146) rfl)) rfl
theorem W_1533 : Cond.code yX12_again cX12_again 6 (some .boolean) ∈ jT := jT_mem (mt_9 (List.mem_of_getElem? (i := 125) rfl)) rfl
theorem W_1534 : Cond.methodLink RL 217 yX12_again ∈ jT := jT_mem (mt_9 (List.mem_of_getElem? (i := 122) rfl)) rfl
theorem W_1535 : Cond.instanceMethod yX12_again ∈ jT := jT_mem (mt_9 (List.mem_of_getElem? (i := 123) rfl)) rfl
theorem W_1536 : Cond.selects RX12 yX12_again yX12_again ∈ jT := jT_mem (mt_9 (List.mem_of_getElem? (i := 124) rfl)) rfl
theorem W_1537 : Cond.code yX11_count cX11_count 2 (some .int) ∈ jT := jT_mem (mt_6 (List.mem_of_getElem? (i := 163) rfl)) rfl
theorem W_1538 : Cond.methodLink RL 218 yX11_count ∈ jT := jT_mem (mt_6 (List.mem_of_getElem? (i := 160) rfl)) rfl
theorem W_1539 : Cond.instanceMethod yX11_count ∈ jT := jT_mem (mt_6 (List.mem_of_getElem? (i := 161) rfl)) rfl
theorem W_1540 : Cond.selects RX11 yX11_count yX11_count ∈ jT := jT_mem (mt_6 (List.mem_of_getElem? (i := 162) rfl)) rfl
theorem W_1541 : Cond.code yX12_count cX12_count 5 (some .int) ∈ jT := jT_mem (mt_9 (List.mem_of_getElem? (i := 133) rfl)) rfl
theorem W_1542 : Cond.methodLink RL 221 yX12_count ∈ jT := jT_mem (mt_9 (List.mem_of_getElem? (i := 130) rfl)) rfl
theorem W_1543 : Cond.instanceMethod yX12_count ∈ jT := jT_mem (mt_9 (List.mem_of_getElem? (i := 131) rfl)) rfl
theorem W_1544 : Cond.selects RX12 yX12_count yX12_count ∈ jT := jT_mem (mt_9 (List.mem_of_getElem? (i := 132) rfl)) rfl
theorem W_1545 : Cond.methodLink RL 222 yL_row ∈ jT := jT_mem (mt_7 (List.mem_of_getElem? (i := 17) rfl)) rfl
theorem W_1546 : Cond.static yL_row ∈ jT := jT_mem (mt_7 (List.mem_of_getElem? (i := 18) rfl)) rfl
theorem W_1547 : Cond.codeWith yL_row cL_row 4 (some .int) [(0, 8, 11, 13)] ∈ jT := jT_mem (mt_7 (List.mem_of_getElem? (i := 19) rfl)) rfl
theorem W_1548 : Cond.code yX12_row cX12_row 2 (some .long) ∈ jT := jT_mem (mt_9 (List.mem_of_getElem? (i := 137) rfl)) rfl
theorem W_1549 : Cond.methodLink RL 225 yX12_row ∈ jT := jT_mem (mt_9 (List.mem_of_getElem? (i := 134) rfl)) rfl
theorem W_1550 : Cond.instanceMethod yX12_row ∈ jT := jT_mem (mt_9 (List.mem_of_getElem? (i := 135) rfl)) rfl
theorem W_1551 : Cond.selects RX12 yX12_row yX12_row ∈ jT := jT_mem (mt_9 (List.mem_of_getElem? (i := 136) rfl)) rfl
theorem W_1552 : Cond.classLink RL 8 RX11 ∈ jT := jT_mem (mt_1 (List.mem_of_getElem? (i := 27) rfl)) rfl
theorem W_1553 : Cond.instantiable RX11 17 ∈ jT := jT_mem (mt_1 (List.mem_of_getElem? (i := 28) rfl)) rfl
theorem W_1554 : Cond.code yX11_init cX11_init 1 none ∈ jT := jT_mem (mt_1 (List.mem_of_getElem? (i := 31) rfl)) rfl
theorem W_1555 : Cond.methodLink RL 22 yX11_init ∈ jT := jT_mem (mt_1 (List.mem_of_getElem? (i := 29) rfl)) rfl
theorem W_1556 : Cond.instanceMethod yX11_init ∈ jT := jT_mem (mt_1 (List.mem_of_getElem? (i := 30) rfl)) rfl
theorem W_1557 : Cond.classLink RL 23 RX12 ∈ jT := jT_mem (mt_7 (List.mem_of_getElem? (i := 25) rfl)) rfl
theorem W_1558 : Cond.instantiable RX12 67 ∈ jT := jT_mem (mt_7 (List.mem_of_getElem? (i := 26) rfl)) rfl
theorem W_1559 : Cond.code yX12_init cX12_init 1 none ∈ jT := jT_mem (mt_7 (List.mem_of_getElem? (i := 29) rfl)) rfl
theorem W_1560 : Cond.methodLink RL 25 yX12_init ∈ jT := jT_mem (mt_7 (List.mem_of_getElem? (i := 27) rfl)) rfl
theorem W_1561 : Cond.instanceMethod yX12_init ∈ jT := jT_mem (mt_7 (List.mem_of_getElem? (i := 28) rfl)) rfl
theorem fy_L_of : yL_of.cls ≠ "java/lang/invoke/MethodHandle" ∧ yL_of.cls ≠ "java/lang/invoke/VarHandle" ∧ (parseMethodDescriptor yL_of.desc).map (fun d => d.parameters.length) = some 4 := by decide +kernel
theorem fy_L_row : yL_row.cls ≠ "java/lang/invoke/MethodHandle" ∧ yL_row.cls ≠ "java/lang/invoke/VarHandle" ∧ (parseMethodDescriptor yL_row.desc).map (fun d => d.parameters.length) = some 3 := by decide +kernel
theorem fy_L_step : yL_step.cls ≠ "java/lang/invoke/MethodHandle" ∧ yL_step.cls ≠ "java/lang/invoke/VarHandle" ∧ (parseMethodDescriptor yL_step.desc).map (fun d => d.parameters.length) = some 4 := by decide +kernel
theorem fy_X11_again : yX11_again.cls ≠ "java/lang/invoke/MethodHandle" ∧ yX11_again.cls ≠ "java/lang/invoke/VarHandle" ∧ (parseMethodDescriptor yX11_again.desc).map (fun d => d.parameters.length) = some 1 := by decide +kernel
theorem fy_X11_all : yX11_all.cls ≠ "java/lang/invoke/MethodHandle" ∧ yX11_all.cls ≠ "java/lang/invoke/VarHandle" ∧ (parseMethodDescriptor yX11_all.desc).map (fun d => d.parameters.length) = some 0 := by decide +kernel
theorem fy_X11_bears : yX11_bears.cls ≠ "java/lang/invoke/MethodHandle" ∧ yX11_bears.cls ≠ "java/lang/invoke/VarHandle" ∧ (parseMethodDescriptor yX11_bears.desc).map (fun d => d.parameters.length) = some 1 := by decide +kernel
theorem fy_X11_best : yX11_best.cls ≠ "java/lang/invoke/MethodHandle" ∧ yX11_best.cls ≠ "java/lang/invoke/VarHandle" ∧ (parseMethodDescriptor yX11_best.desc).map (fun d => d.parameters.length) = some 1 := by decide +kernel
theorem fy_X11_breaks : yX11_breaks.cls ≠ "java/lang/invoke/MethodHandle" ∧ yX11_breaks.cls ≠ "java/lang/invoke/VarHandle" ∧ (parseMethodDescriptor yX11_breaks.desc).map (fun d => d.parameters.length) = some 1 := by decide +kernel
theorem fy_X11_climb : yX11_climb.cls ≠ "java/lang/invoke/MethodHandle" ∧ yX11_climb.cls ≠ "java/lang/invoke/VarHandle" ∧ (parseMethodDescriptor yX11_climb.desc).map (fun d => d.parameters.length) = some 1 := by decide +kernel
theorem fy_X11_costs : yX11_costs.cls ≠ "java/lang/invoke/MethodHandle" ∧ yX11_costs.cls ≠ "java/lang/invoke/VarHandle" ∧ (parseMethodDescriptor yX11_costs.desc).map (fun d => d.parameters.length) = some 2 := by decide +kernel
theorem fy_X11_count : yX11_count.cls ≠ "java/lang/invoke/MethodHandle" ∧ yX11_count.cls ≠ "java/lang/invoke/VarHandle" ∧ (parseMethodDescriptor yX11_count.desc).map (fun d => d.parameters.length) = some 1 := by decide +kernel
theorem fy_X11_dies : yX11_dies.cls ≠ "java/lang/invoke/MethodHandle" ∧ yX11_dies.cls ≠ "java/lang/invoke/VarHandle" ∧ (parseMethodDescriptor yX11_dies.desc).map (fun d => d.parameters.length) = some 2 := by decide +kernel
theorem fy_X11_earned : yX11_earned.cls ≠ "java/lang/invoke/MethodHandle" ∧ yX11_earned.cls ≠ "java/lang/invoke/VarHandle" ∧ (parseMethodDescriptor yX11_earned.desc).map (fun d => d.parameters.length) = some 1 := by decide +kernel
theorem fy_X11_end : yX11_end.cls ≠ "java/lang/invoke/MethodHandle" ∧ yX11_end.cls ≠ "java/lang/invoke/VarHandle" ∧ (parseMethodDescriptor yX11_end.desc).map (fun d => d.parameters.length) = some 1 := by decide +kernel
theorem fy_X11_feast : yX11_feast.cls ≠ "java/lang/invoke/MethodHandle" ∧ yX11_feast.cls ≠ "java/lang/invoke/VarHandle" ∧ (parseMethodDescriptor yX11_feast.desc).map (fun d => d.parameters.length) = some 1 := by decide +kernel
theorem fy_X11_feud : yX11_feud.cls ≠ "java/lang/invoke/MethodHandle" ∧ yX11_feud.cls ≠ "java/lang/invoke/VarHandle" ∧ (parseMethodDescriptor yX11_feud.desc).map (fun d => d.parameters.length) = some 3 := by decide +kernel
theorem fy_X11_init : yX11_init.cls ≠ "java/lang/invoke/MethodHandle" ∧ yX11_init.cls ≠ "java/lang/invoke/VarHandle" ∧ (parseMethodDescriptor yX11_init.desc).map (fun d => d.parameters.length) = some 0 := by decide +kernel
theorem fy_X11_jam : yX11_jam.cls ≠ "java/lang/invoke/MethodHandle" ∧ yX11_jam.cls ≠ "java/lang/invoke/VarHandle" ∧ (parseMethodDescriptor yX11_jam.desc).map (fun d => d.parameters.length) = some 0 := by decide +kernel
theorem fy_X11_keep : yX11_keep.cls ≠ "java/lang/invoke/MethodHandle" ∧ yX11_keep.cls ≠ "java/lang/invoke/VarHandle" ∧ (parseMethodDescriptor yX11_keep.desc).map (fun d => d.parameters.length) = some 1 := by decide +kernel
theorem fy_X11_knees : yX11_knees.cls ≠ "java/lang/invoke/MethodHandle" ∧ yX11_knees.cls ≠ "java/lang/invoke/VarHandle" ∧ (parseMethodDescriptor yX11_knees.desc).map (fun d => d.parameters.length) = some 1 := by decide +kernel
theorem fy_X11_lamps : yX11_lamps.cls ≠ "java/lang/invoke/MethodHandle" ∧ yX11_lamps.cls ≠ "java/lang/invoke/VarHandle" ∧ (parseMethodDescriptor yX11_lamps.desc).map (fun d => d.parameters.length) = some 1 := by decide +kernel
theorem fy_X11_law : yX11_law.cls ≠ "java/lang/invoke/MethodHandle" ∧ yX11_law.cls ≠ "java/lang/invoke/VarHandle" ∧ (parseMethodDescriptor yX11_law.desc).map (fun d => d.parameters.length) = some 1 := by decide +kernel
theorem fy_X11_market : yX11_market.cls ≠ "java/lang/invoke/MethodHandle" ∧ yX11_market.cls ≠ "java/lang/invoke/VarHandle" ∧ (parseMethodDescriptor yX11_market.desc).map (fun d => d.parameters.length) = some 1 := by decide +kernel
theorem fy_X11_mends : yX11_mends.cls ≠ "java/lang/invoke/MethodHandle" ∧ yX11_mends.cls ≠ "java/lang/invoke/VarHandle" ∧ (parseMethodDescriptor yX11_mends.desc).map (fun d => d.parameters.length) = some 1 := by decide +kernel
theorem fy_X11_next : yX11_next.cls ≠ "java/lang/invoke/MethodHandle" ∧ yX11_next.cls ≠ "java/lang/invoke/VarHandle" ∧ (parseMethodDescriptor yX11_next.desc).map (fun d => d.parameters.length) = some 2 := by decide +kernel
theorem fy_X11_parts : yX11_parts.cls ≠ "java/lang/invoke/MethodHandle" ∧ yX11_parts.cls ≠ "java/lang/invoke/VarHandle" ∧ (parseMethodDescriptor yX11_parts.desc).map (fun d => d.parameters.length) = some 2 := by decide +kernel
theorem fy_X11_peace : yX11_peace.cls ≠ "java/lang/invoke/MethodHandle" ∧ yX11_peace.cls ≠ "java/lang/invoke/VarHandle" ∧ (parseMethodDescriptor yX11_peace.desc).map (fun d => d.parameters.length) = some 0 := by decide +kernel
theorem fy_X11_pilgrim : yX11_pilgrim.cls ≠ "java/lang/invoke/MethodHandle" ∧ yX11_pilgrim.cls ≠ "java/lang/invoke/VarHandle" ∧ (parseMethodDescriptor yX11_pilgrim.desc).map (fun d => d.parameters.length) = some 4 := by decide +kernel
theorem fy_X11_rail : yX11_rail.cls ≠ "java/lang/invoke/MethodHandle" ∧ yX11_rail.cls ≠ "java/lang/invoke/VarHandle" ∧ (parseMethodDescriptor yX11_rail.desc).map (fun d => d.parameters.length) = some 1 := by decide +kernel
theorem fy_X11_rests : yX11_rests.cls ≠ "java/lang/invoke/MethodHandle" ∧ yX11_rests.cls ≠ "java/lang/invoke/VarHandle" ∧ (parseMethodDescriptor yX11_rests.desc).map (fun d => d.parameters.length) = some 2 := by decide +kernel
theorem fy_X11_returns : yX11_returns.cls ≠ "java/lang/invoke/MethodHandle" ∧ yX11_returns.cls ≠ "java/lang/invoke/VarHandle" ∧ (parseMethodDescriptor yX11_returns.desc).map (fun d => d.parameters.length) = some 1 := by decide +kernel
theorem fy_X11_rules : yX11_rules.cls ≠ "java/lang/invoke/MethodHandle" ∧ yX11_rules.cls ≠ "java/lang/invoke/VarHandle" ∧ (parseMethodDescriptor yX11_rules.desc).map (fun d => d.parameters.length) = some 2 := by decide +kernel
theorem fy_X11_sells : yX11_sells.cls ≠ "java/lang/invoke/MethodHandle" ∧ yX11_sells.cls ≠ "java/lang/invoke/VarHandle" ∧ (parseMethodDescriptor yX11_sells.desc).map (fun d => d.parameters.length) = some 5 := by decide +kernel
theorem fy_X11_set : yX11_set.cls ≠ "java/lang/invoke/MethodHandle" ∧ yX11_set.cls ≠ "java/lang/invoke/VarHandle" ∧ (parseMethodDescriptor yX11_set.desc).map (fun d => d.parameters.length) = some 3 := by decide +kernel
theorem fy_X11_sheet : yX11_sheet.cls ≠ "java/lang/invoke/MethodHandle" ∧ yX11_sheet.cls ≠ "java/lang/invoke/VarHandle" ∧ (parseMethodDescriptor yX11_sheet.desc).map (fun d => d.parameters.length) = some 4 := by decide +kernel
theorem fy_X11_shut : yX11_shut.cls ≠ "java/lang/invoke/MethodHandle" ∧ yX11_shut.cls ≠ "java/lang/invoke/VarHandle" ∧ (parseMethodDescriptor yX11_shut.desc).map (fun d => d.parameters.length) = some 1 := by decide +kernel
theorem fy_X11_sign : yX11_sign.cls ≠ "java/lang/invoke/MethodHandle" ∧ yX11_sign.cls ≠ "java/lang/invoke/VarHandle" ∧ (parseMethodDescriptor yX11_sign.desc).map (fun d => d.parameters.length) = some 1 := by decide +kernel
theorem fy_X11_stairs : yX11_stairs.cls ≠ "java/lang/invoke/MethodHandle" ∧ yX11_stairs.cls ≠ "java/lang/invoke/VarHandle" ∧ (parseMethodDescriptor yX11_stairs.desc).map (fun d => d.parameters.length) = some 0 := by decide +kernel
theorem fy_X11_toll : yX11_toll.cls ≠ "java/lang/invoke/MethodHandle" ∧ yX11_toll.cls ≠ "java/lang/invoke/VarHandle" ∧ (parseMethodDescriptor yX11_toll.desc).map (fun d => d.parameters.length) = some 1 := by decide +kernel
theorem fy_X11_tread : yX11_tread.cls ≠ "java/lang/invoke/MethodHandle" ∧ yX11_tread.cls ≠ "java/lang/invoke/VarHandle" ∧ (parseMethodDescriptor yX11_tread.desc).map (fun d => d.parameters.length) = some 2 := by decide +kernel
theorem fy_X11_trod : yX11_trod.cls ≠ "java/lang/invoke/MethodHandle" ∧ yX11_trod.cls ≠ "java/lang/invoke/VarHandle" ∧ (parseMethodDescriptor yX11_trod.desc).map (fun d => d.parameters.length) = some 3 := by decide +kernel
theorem fy_X11_undo : yX11_undo.cls ≠ "java/lang/invoke/MethodHandle" ∧ yX11_undo.cls ≠ "java/lang/invoke/VarHandle" ∧ (parseMethodDescriptor yX11_undo.desc).map (fun d => d.parameters.length) = some 0 := by decide +kernel
theorem fy_X11_vow : yX11_vow.cls ≠ "java/lang/invoke/MethodHandle" ∧ yX11_vow.cls ≠ "java/lang/invoke/VarHandle" ∧ (parseMethodDescriptor yX11_vow.desc).map (fun d => d.parameters.length) = some 2 := by decide +kernel
theorem fy_X11_ways : yX11_ways.cls ≠ "java/lang/invoke/MethodHandle" ∧ yX11_ways.cls ≠ "java/lang/invoke/VarHandle" ∧ (parseMethodDescriptor yX11_ways.desc).map (fun d => d.parameters.length) = some 2 := by decide +kernel
theorem fy_X11_wears : yX11_wears.cls ≠ "java/lang/invoke/MethodHandle" ∧ yX11_wears.cls ≠ "java/lang/invoke/VarHandle" ∧ (parseMethodDescriptor yX11_wears.desc).map (fun d => d.parameters.length) = some 1 := by decide +kernel
theorem fy_X11_who : yX11_who.cls ≠ "java/lang/invoke/MethodHandle" ∧ yX11_who.cls ≠ "java/lang/invoke/VarHandle" ∧ (parseMethodDescriptor yX11_who.desc).map (fun d => d.parameters.length) = some 2 := by decide +kernel
theorem fy_X11_whole : yX11_whole.cls ≠ "java/lang/invoke/MethodHandle" ∧ yX11_whole.cls ≠ "java/lang/invoke/VarHandle" ∧ (parseMethodDescriptor yX11_whole.desc).map (fun d => d.parameters.length) = some 1 := by decide +kernel
theorem fy_X11_would : yX11_would.cls ≠ "java/lang/invoke/MethodHandle" ∧ yX11_would.cls ≠ "java/lang/invoke/VarHandle" ∧ (parseMethodDescriptor yX11_would.desc).map (fun d => d.parameters.length) = some 2 := by decide +kernel
theorem fy_X12_again : yX12_again.cls ≠ "java/lang/invoke/MethodHandle" ∧ yX12_again.cls ≠ "java/lang/invoke/VarHandle" ∧ (parseMethodDescriptor yX12_again.desc).map (fun d => d.parameters.length) = some 1 := by decide +kernel
theorem fy_X12_all : yX12_all.cls ≠ "java/lang/invoke/MethodHandle" ∧ yX12_all.cls ≠ "java/lang/invoke/VarHandle" ∧ (parseMethodDescriptor yX12_all.desc).map (fun d => d.parameters.length) = some 0 := by decide +kernel
theorem fy_X12_bears : yX12_bears.cls ≠ "java/lang/invoke/MethodHandle" ∧ yX12_bears.cls ≠ "java/lang/invoke/VarHandle" ∧ (parseMethodDescriptor yX12_bears.desc).map (fun d => d.parameters.length) = some 1 := by decide +kernel
theorem fy_X12_best : yX12_best.cls ≠ "java/lang/invoke/MethodHandle" ∧ yX12_best.cls ≠ "java/lang/invoke/VarHandle" ∧ (parseMethodDescriptor yX12_best.desc).map (fun d => d.parameters.length) = some 1 := by decide +kernel
theorem fy_X12_breaks : yX12_breaks.cls ≠ "java/lang/invoke/MethodHandle" ∧ yX12_breaks.cls ≠ "java/lang/invoke/VarHandle" ∧ (parseMethodDescriptor yX12_breaks.desc).map (fun d => d.parameters.length) = some 1 := by decide +kernel
theorem fy_X12_climb : yX12_climb.cls ≠ "java/lang/invoke/MethodHandle" ∧ yX12_climb.cls ≠ "java/lang/invoke/VarHandle" ∧ (parseMethodDescriptor yX12_climb.desc).map (fun d => d.parameters.length) = some 1 := by decide +kernel
theorem fy_X12_costs : yX12_costs.cls ≠ "java/lang/invoke/MethodHandle" ∧ yX12_costs.cls ≠ "java/lang/invoke/VarHandle" ∧ (parseMethodDescriptor yX12_costs.desc).map (fun d => d.parameters.length) = some 2 := by decide +kernel
theorem fy_X12_count : yX12_count.cls ≠ "java/lang/invoke/MethodHandle" ∧ yX12_count.cls ≠ "java/lang/invoke/VarHandle" ∧ (parseMethodDescriptor yX12_count.desc).map (fun d => d.parameters.length) = some 1 := by decide +kernel
theorem fy_X12_dies : yX12_dies.cls ≠ "java/lang/invoke/MethodHandle" ∧ yX12_dies.cls ≠ "java/lang/invoke/VarHandle" ∧ (parseMethodDescriptor yX12_dies.desc).map (fun d => d.parameters.length) = some 2 := by decide +kernel
theorem fy_X12_earned : yX12_earned.cls ≠ "java/lang/invoke/MethodHandle" ∧ yX12_earned.cls ≠ "java/lang/invoke/VarHandle" ∧ (parseMethodDescriptor yX12_earned.desc).map (fun d => d.parameters.length) = some 1 := by decide +kernel
theorem fy_X12_end : yX12_end.cls ≠ "java/lang/invoke/MethodHandle" ∧ yX12_end.cls ≠ "java/lang/invoke/VarHandle" ∧ (parseMethodDescriptor yX12_end.desc).map (fun d => d.parameters.length) = some 1 := by decide +kernel
theorem fy_X12_feast : yX12_feast.cls ≠ "java/lang/invoke/MethodHandle" ∧ yX12_feast.cls ≠ "java/lang/invoke/VarHandle" ∧ (parseMethodDescriptor yX12_feast.desc).map (fun d => d.parameters.length) = some 1 := by decide +kernel
theorem fy_X12_feud : yX12_feud.cls ≠ "java/lang/invoke/MethodHandle" ∧ yX12_feud.cls ≠ "java/lang/invoke/VarHandle" ∧ (parseMethodDescriptor yX12_feud.desc).map (fun d => d.parameters.length) = some 3 := by decide +kernel
theorem fy_X12_init : yX12_init.cls ≠ "java/lang/invoke/MethodHandle" ∧ yX12_init.cls ≠ "java/lang/invoke/VarHandle" ∧ (parseMethodDescriptor yX12_init.desc).map (fun d => d.parameters.length) = some 0 := by decide +kernel
theorem fy_X12_jam : yX12_jam.cls ≠ "java/lang/invoke/MethodHandle" ∧ yX12_jam.cls ≠ "java/lang/invoke/VarHandle" ∧ (parseMethodDescriptor yX12_jam.desc).map (fun d => d.parameters.length) = some 0 := by decide +kernel
theorem fy_X12_keep : yX12_keep.cls ≠ "java/lang/invoke/MethodHandle" ∧ yX12_keep.cls ≠ "java/lang/invoke/VarHandle" ∧ (parseMethodDescriptor yX12_keep.desc).map (fun d => d.parameters.length) = some 1 := by decide +kernel
theorem fy_X12_knees : yX12_knees.cls ≠ "java/lang/invoke/MethodHandle" ∧ yX12_knees.cls ≠ "java/lang/invoke/VarHandle" ∧ (parseMethodDescriptor yX12_knees.desc).map (fun d => d.parameters.length) = some 1 := by decide +kernel
theorem fy_X12_lamps : yX12_lamps.cls ≠ "java/lang/invoke/MethodHandle" ∧ yX12_lamps.cls ≠ "java/lang/invoke/VarHandle" ∧ (parseMethodDescriptor yX12_lamps.desc).map (fun d => d.parameters.length) = some 1 := by decide +kernel
theorem fy_X12_law : yX12_law.cls ≠ "java/lang/invoke/MethodHandle" ∧ yX12_law.cls ≠ "java/lang/invoke/VarHandle" ∧ (parseMethodDescriptor yX12_law.desc).map (fun d => d.parameters.length) = some 1 := by decide +kernel
theorem fy_X12_market : yX12_market.cls ≠ "java/lang/invoke/MethodHandle" ∧ yX12_market.cls ≠ "java/lang/invoke/VarHandle" ∧ (parseMethodDescriptor yX12_market.desc).map (fun d => d.parameters.length) = some 1 := by decide +kernel
theorem fy_X12_mends : yX12_mends.cls ≠ "java/lang/invoke/MethodHandle" ∧ yX12_mends.cls ≠ "java/lang/invoke/VarHandle" ∧ (parseMethodDescriptor yX12_mends.desc).map (fun d => d.parameters.length) = some 1 := by decide +kernel
theorem fy_X12_next : yX12_next.cls ≠ "java/lang/invoke/MethodHandle" ∧ yX12_next.cls ≠ "java/lang/invoke/VarHandle" ∧ (parseMethodDescriptor yX12_next.desc).map (fun d => d.parameters.length) = some 2 := by decide +kernel
theorem fy_X12_of : yX12_of.cls ≠ "java/lang/invoke/MethodHandle" ∧ yX12_of.cls ≠ "java/lang/invoke/VarHandle" ∧ (parseMethodDescriptor yX12_of.desc).map (fun d => d.parameters.length) = some 2 := by decide +kernel
theorem fy_X12_parts : yX12_parts.cls ≠ "java/lang/invoke/MethodHandle" ∧ yX12_parts.cls ≠ "java/lang/invoke/VarHandle" ∧ (parseMethodDescriptor yX12_parts.desc).map (fun d => d.parameters.length) = some 2 := by decide +kernel
theorem fy_X12_peace : yX12_peace.cls ≠ "java/lang/invoke/MethodHandle" ∧ yX12_peace.cls ≠ "java/lang/invoke/VarHandle" ∧ (parseMethodDescriptor yX12_peace.desc).map (fun d => d.parameters.length) = some 0 := by decide +kernel
theorem fy_X12_pilgrim : yX12_pilgrim.cls ≠ "java/lang/invoke/MethodHandle" ∧ yX12_pilgrim.cls ≠ "java/lang/invoke/VarHandle" ∧ (parseMethodDescriptor yX12_pilgrim.desc).map (fun d => d.parameters.length) = some 4 := by decide +kernel
theorem fy_X12_rail : yX12_rail.cls ≠ "java/lang/invoke/MethodHandle" ∧ yX12_rail.cls ≠ "java/lang/invoke/VarHandle" ∧ (parseMethodDescriptor yX12_rail.desc).map (fun d => d.parameters.length) = some 1 := by decide +kernel
theorem fy_X12_rests : yX12_rests.cls ≠ "java/lang/invoke/MethodHandle" ∧ yX12_rests.cls ≠ "java/lang/invoke/VarHandle" ∧ (parseMethodDescriptor yX12_rests.desc).map (fun d => d.parameters.length) = some 2 := by decide +kernel
theorem fy_X12_returns : yX12_returns.cls ≠ "java/lang/invoke/MethodHandle" ∧ yX12_returns.cls ≠ "java/lang/invoke/VarHandle" ∧ (parseMethodDescriptor yX12_returns.desc).map (fun d => d.parameters.length) = some 1 := by decide +kernel
theorem fy_X12_row : yX12_row.cls ≠ "java/lang/invoke/MethodHandle" ∧ yX12_row.cls ≠ "java/lang/invoke/VarHandle" ∧ (parseMethodDescriptor yX12_row.desc).map (fun d => d.parameters.length) = some 1 := by decide +kernel
theorem fy_X12_rules : yX12_rules.cls ≠ "java/lang/invoke/MethodHandle" ∧ yX12_rules.cls ≠ "java/lang/invoke/VarHandle" ∧ (parseMethodDescriptor yX12_rules.desc).map (fun d => d.parameters.length) = some 2 := by decide +kernel
theorem fy_X12_sells : yX12_sells.cls ≠ "java/lang/invoke/MethodHandle" ∧ yX12_sells.cls ≠ "java/lang/invoke/VarHandle" ∧ (parseMethodDescriptor yX12_sells.desc).map (fun d => d.parameters.length) = some 5 := by decide +kernel
theorem fy_X12_set : yX12_set.cls ≠ "java/lang/invoke/MethodHandle" ∧ yX12_set.cls ≠ "java/lang/invoke/VarHandle" ∧ (parseMethodDescriptor yX12_set.desc).map (fun d => d.parameters.length) = some 3 := by decide +kernel
theorem fy_X12_sheet : yX12_sheet.cls ≠ "java/lang/invoke/MethodHandle" ∧ yX12_sheet.cls ≠ "java/lang/invoke/VarHandle" ∧ (parseMethodDescriptor yX12_sheet.desc).map (fun d => d.parameters.length) = some 4 := by decide +kernel
theorem fy_X12_shut : yX12_shut.cls ≠ "java/lang/invoke/MethodHandle" ∧ yX12_shut.cls ≠ "java/lang/invoke/VarHandle" ∧ (parseMethodDescriptor yX12_shut.desc).map (fun d => d.parameters.length) = some 1 := by decide +kernel
theorem fy_X12_sign : yX12_sign.cls ≠ "java/lang/invoke/MethodHandle" ∧ yX12_sign.cls ≠ "java/lang/invoke/VarHandle" ∧ (parseMethodDescriptor yX12_sign.desc).map (fun d => d.parameters.length) = some 1 := by decide +kernel
theorem fy_X12_stairs : yX12_stairs.cls ≠ "java/lang/invoke/MethodHandle" ∧ yX12_stairs.cls ≠ "java/lang/invoke/VarHandle" ∧ (parseMethodDescriptor yX12_stairs.desc).map (fun d => d.parameters.length) = some 0 := by decide +kernel
theorem fy_X12_step : yX12_step.cls ≠ "java/lang/invoke/MethodHandle" ∧ yX12_step.cls ≠ "java/lang/invoke/VarHandle" ∧ (parseMethodDescriptor yX12_step.desc).map (fun d => d.parameters.length) = some 2 := by decide +kernel
theorem fy_X12_thrown : yX12_thrown.cls ≠ "java/lang/invoke/MethodHandle" ∧ yX12_thrown.cls ≠ "java/lang/invoke/VarHandle" ∧ (parseMethodDescriptor yX12_thrown.desc).map (fun d => d.parameters.length) = some 0 := by decide +kernel
theorem fy_X12_toll : yX12_toll.cls ≠ "java/lang/invoke/MethodHandle" ∧ yX12_toll.cls ≠ "java/lang/invoke/VarHandle" ∧ (parseMethodDescriptor yX12_toll.desc).map (fun d => d.parameters.length) = some 1 := by decide +kernel
theorem fy_X12_tread : yX12_tread.cls ≠ "java/lang/invoke/MethodHandle" ∧ yX12_tread.cls ≠ "java/lang/invoke/VarHandle" ∧ (parseMethodDescriptor yX12_tread.desc).map (fun d => d.parameters.length) = some 2 := by decide +kernel
theorem fy_X12_trod : yX12_trod.cls ≠ "java/lang/invoke/MethodHandle" ∧ yX12_trod.cls ≠ "java/lang/invoke/VarHandle" ∧ (parseMethodDescriptor yX12_trod.desc).map (fun d => d.parameters.length) = some 3 := by decide +kernel
theorem fy_X12_undo : yX12_undo.cls ≠ "java/lang/invoke/MethodHandle" ∧ yX12_undo.cls ≠ "java/lang/invoke/VarHandle" ∧ (parseMethodDescriptor yX12_undo.desc).map (fun d => d.parameters.length) = some 0 := by decide +kernel
theorem fy_X12_vow : yX12_vow.cls ≠ "java/lang/invoke/MethodHandle" ∧ yX12_vow.cls ≠ "java/lang/invoke/VarHandle" ∧ (parseMethodDescriptor yX12_vow.desc).map (fun d => d.parameters.length) = some 2 := by decide +kernel
theorem fy_X12_ways : yX12_ways.cls ≠ "java/lang/invoke/MethodHandle" ∧ yX12_ways.cls ≠ "java/lang/invoke/VarHandle" ∧ (parseMethodDescriptor yX12_ways.desc).map (fun d => d.parameters.length) = some 2 := by decide +kernel
theorem fy_X12_wears : yX12_wears.cls ≠ "java/lang/invoke/MethodHandle" ∧ yX12_wears.cls ≠ "java/lang/invoke/VarHandle" ∧ (parseMethodDescriptor yX12_wears.desc).map (fun d => d.parameters.length) = some 1 := by decide +kernel
theorem fy_X12_who : yX12_who.cls ≠ "java/lang/invoke/MethodHandle" ∧ yX12_who.cls ≠ "java/lang/invoke/VarHandle" ∧ (parseMethodDescriptor yX12_who.desc).map (fun d => d.parameters.length) = some 2 := by decide +kernel
theorem fy_X12_whole : yX12_whole.cls ≠ "java/lang/invoke/MethodHandle" ∧ yX12_whole.cls ≠ "java/lang/invoke/VarHandle" ∧ (parseMethodDescriptor yX12_whole.desc).map (fun d => d.parameters.length) = some 1 := by decide +kernel
theorem fy_X12_would : yX12_would.cls ≠ "java/lang/invoke/MethodHandle" ∧ yX12_would.cls ≠ "java/lang/invoke/VarHandle" ∧ (parseMethodDescriptor yX12_would.desc).map (fun d => d.parameters.length) = some 2 := by decide +kernel
set_option maxRecDepth 100000 in
def f_L_law_b1816 (xs : Nat → Int32) (Ls : Nat) (K23 : Nat → Nat → Nat → Int32 → jZ → jI → jL → Prop) (v1 : Nat) (v2 : Nat) (v3 : Nat) (v4 : Int32) (Z : jZ) (I : jI) (L : jL) : Prop := (∀ x1 : Int32, x1 = v4 + 6 → K23 v1 v2 v3 x1 Z I L)
set_option maxHeartbeats 4000000 in
set_option maxRecDepth 100000 in
theorem m_L_law_b1816 {G : jG} {Z0 : jZ} {xs : Nat → Int32} {Ls b k9 n9 : Nat} (E : jE G cL_law RL (Cond.arrayClass .byte :: jT) 8 (some .boolean) room_1 jRL) (hX : va_X b Ls xs (gS G) (gS G).heap ∧ b < (gS G).heap.size ∧ ¬ gA G b) (hV : jV (gA G) (gS G) (gS G).heap) (hl0 : (gL G).stackTraces = false) (hb9 : k9 + 27 ≤ 600002) (hn9 : n9 + 600 ≤ 7302232) (K23 : Nat → Nat → Nat → Int32 → jZ → jI → jL → Prop) (hK23 : ∀ (v1 : Nat) (v2 : Nat) (v3 : Nat) (v4 : Int32) (Z : jZ) (I : jI) (L : jL), SH Z → jext Z0 Z → jk Z v1 11 → jk Z v2 12 → jk Z v3 15 → K23 v1 v2 v3 v4 Z I L → jJ G 8 23 [(0, .ref b), (1, .ref v1), (2, .ref v2), (3, .ref v3), (4, .int v4)] [] Z I L (k9 + 27) (n9 + 600)) (v1 : Nat) (v2 : Nat) (v3 : Nat) (v4 : Int32) (Z : jZ) (I : jI) (L : jL) (hZ : SH Z) (hx : jext Z0 Z) (kv1 : jk Z v1 11) (kv2 : jk Z v2 12) (kv3 : jk Z v3 15) (h : f_L_law_b1816 xs Ls K23 v1 v2 v3 v4 Z I L) : jJ G 8 1816 [(0, .ref b), (1, .ref v1), (2, .ref v2), (3, .ref v3), (4, .int v4)] [] Z I L (k9 + 27) (n9 + 600) := by
  unfold f_L_law_b1816 at h
  obtain ⟨x1, ex1⟩ : ∃ y : Int32, y = v4 + 6 := ⟨_, rfl⟩
  have h := h x1 ex1
  refine j_iinc E x1 [(4, .int x1), (0, .ref b), (1, .ref v1), (2, .ref v2), (3, .ref v3)] dL_law_1816 4 rfl (by rw [ex1]; rfl) (by decide) rfl ?_
  refine j_goto E 23 dL_law_1819 (by decide) ?_
  refine j_sub [1, 2, 3, 4, 0] rfl ?_
  refine j_widen (k9 := k9 + 27) (n9 := n9 + 600) (by show k9 + 27 ≤ k9 + 27; omega) (by show n9 + 600 ≤ n9 + 600; omega) ?_
  exact hK23 v1 v2 v3 x1 Z I L hZ hx kv1 kv2 kv3 h
set_option maxRecDepth 100000 in
def f_L_law_b244 (xs : Nat → Int32) (Ls : Nat) (K23 : Nat → Nat → Nat → Int32 → jZ → jI → jL → Prop) (v1 : Nat) (v2 : Nat) (v3 : Nat) (v4 : Int32) (Z : jZ) (I : jI) (L : jL) : Prop := (vp_in (v4 + (1 : Int32)) Ls ∧ (f_X11_sign v1 (xs (v4 + (1 : Int32)).toNatClampNeg) Z I L (fun r8 I5 L6 => (vp_in (v4 + (1 : Int32)) Ls ∧ (f_X12_sign v2 (xs (v4 + (1 : Int32)).toNatClampNeg) Z I5 L6 (fun r15 I12 L13 => ((r8 = r15 → f_L_law_b1816 xs Ls K23 v1 v2 v3 v4 Z I12 L13) ∧ (¬ (r8 = r15) → False))))))))
set_option maxHeartbeats 4000000 in
set_option maxRecDepth 100000 in
theorem m_L_law_b244 {G : jG} {Z0 : jZ} {xs : Nat → Int32} {Ls b k9 n9 : Nat} (E : jE G cL_law RL (Cond.arrayClass .byte :: jT) 8 (some .boolean) room_1 jRL) (hX : va_X b Ls xs (gS G) (gS G).heap ∧ b < (gS G).heap.size ∧ ¬ gA G b) (hV : jV (gA G) (gS G) (gS G).heap) (hl0 : (gL G).stackTraces = false) (hb9 : k9 + 27 ≤ 600002) (hn9 : n9 + 600 ≤ 7302232) (K23 : Nat → Nat → Nat → Int32 → jZ → jI → jL → Prop) (hK23 : ∀ (v1 : Nat) (v2 : Nat) (v3 : Nat) (v4 : Int32) (Z : jZ) (I : jI) (L : jL), SH Z → jext Z0 Z → jk Z v1 11 → jk Z v2 12 → jk Z v3 15 → K23 v1 v2 v3 v4 Z I L → jJ G 8 23 [(0, .ref b), (1, .ref v1), (2, .ref v2), (3, .ref v3), (4, .int v4)] [] Z I L (k9 + 27) (n9 + 600)) (v1 : Nat) (v2 : Nat) (v3 : Nat) (v4 : Int32) (Z : jZ) (I : jI) (L : jL) (hZ : SH Z) (hx : jext Z0 Z) (kv1 : jk Z v1 11) (kv2 : jk Z v2 12) (kv3 : jk Z v3 15) (h : f_L_law_b244 xs Ls K23 v1 v2 v3 v4 Z I L) : jJ G 8 244 [(0, .ref b), (1, .ref v1), (2, .ref v2), (3, .ref v3), (4, .int v4)] [] Z I L (k9 + 0) (n9 + 0) := by
  unfold f_L_law_b244 at h
  refine j_aload_n E dL_law_244 1 rfl ?_
  refine j_aload_n E dL_law_245 0 rfl ?_
  refine j_iload E dL_law_246 4 rfl ?_
  refine j_iconst E (v := 1) dL_law_248 (by decide) ?_
  refine j_iadd E dL_law_249 ?_
  obtain ⟨o2, h⟩ := h
  refine j_sld E hX.1 hX.2.1 hX.2.2 o2 dL_law_250 ?_
  refine j_callV E [.int (xs (v4 + (1 : Int32)).toNatClampNeg)] [] (c_X11_sign (gL G) (gD G) (gY G) v1 (xs (v4 + (1 : Int32)).toNatClampNeg) Z I L _ hZ kv1 h) (gwV W_1175 W_1176 W_1177 W_28 W_1174) rfl ⟨rfl, fy_X11_sign⟩ ⟨by decide, by decide⟩ (c := 11) rfl (by decide) kv1 rfl rfl (Nat.le_of_ble_eq_true rfl) ⟨by show k9 + 0 + 0 ≤ 600002; omega, by show n9 + 0 + 0 ≤ 7302232; omega⟩ dL_law_251 (fun v3 Z4 I5 L6 q7 => ?_)
  obtain ⟨rfl, r8, rfl, h⟩ := q7
  show jJ G 8 254 [(0, .ref b), (1, .ref v1), (2, .ref v2), (3, .ref v3), (4, .int v4)] [.int r8] Z I5 L6 (k9 + 0) (n9 + 0)
  refine j_aload_n E dL_law_254 2 rfl ?_
  refine j_aload_n E dL_law_255 0 rfl ?_
  refine j_iload E dL_law_256 4 rfl ?_
  refine j_iconst E (v := 1) dL_law_258 (by decide) ?_
  refine j_iadd E dL_law_259 ?_
  obtain ⟨o9, h⟩ := h
  refine j_sld E hX.1 hX.2.1 hX.2.2 o9 dL_law_260 ?_
  refine j_callV E [.int (xs (v4 + (1 : Int32)).toNatClampNeg)] [.int r8] (c_X12_sign (gL G) (gD G) (gY G) v2 (xs (v4 + (1 : Int32)).toNatClampNeg) Z I5 L6 _ hZ kv2 h) (gwV W_1179 W_1180 W_1181 W_679 W_1178) rfl ⟨rfl, fy_X12_sign⟩ ⟨by decide, by decide⟩ (c := 12) rfl (by decide) kv2 rfl rfl (Nat.le_of_ble_eq_true rfl) ⟨by show k9 + 0 + 0 ≤ 600002; omega, by show n9 + 0 + 0 ≤ 7302232; omega⟩ dL_law_261 (fun v10 Z11 I12 L13 q14 => ?_)
  obtain ⟨rfl, r15, rfl, h⟩ := q14
  show jJ G 8 264 [(0, .ref b), (1, .ref v1), (2, .ref v2), (3, .ref v3), (4, .int v4)] [.int r15, .int r8] Z I12 L13 (k9 + 0) (n9 + 0)
  refine j_icmp_eq E 1816 dL_law_264 (by decide) (fun c16 => ?_) (fun c16 => ?_)
  · have h := h.1 c16
    refine j_sub [0, 1, 2, 3, 4] rfl ?_
    refine j_widen (k9 := k9 + 27) (n9 := n9 + 600) (by show k9 + 0 ≤ k9 + 27; omega) (by show n9 + 0 ≤ n9 + 600; omega) ?_
    exact m_L_law_b1816 E hX hV hl0 hb9 hn9 K23 hK23 v1 v2 v3 v4 Z I12 L13 hZ hx kv1 kv2 kv3 h
  · have h := h.2 c16
    refine j_iconst E (v := 0) dL_law_267 (by decide) ?_
    exact h.elim
set_option maxRecDepth 100000 in
def f_L_law_b269 (xs : Nat → Int32) (Ls : Nat) (K23 : Nat → Nat → Nat → Int32 → jZ → jI → jL → Prop) (v1 : Nat) (v2 : Nat) (v3 : Nat) (v4 : Int32) (Z : jZ) (I : jI) (L : jL) : Prop := (vp_in (v4 + (1 : Int32)) Ls ∧ (f_X11_end v1 (xs (v4 + (1 : Int32)).toNatClampNeg) Z I L (fun r23 I20 L21 => (vp_in (v4 + (1 : Int32)) Ls ∧ (f_X12_end v2 (xs (v4 + (1 : Int32)).toNatClampNeg) Z I20 L21 (fun r30 I27 L28 => ((r23 = r30 → f_L_law_b1816 xs Ls K23 v1 v2 v3 v4 Z I27 L28) ∧ (¬ (r23 = r30) → False))))))))
set_option maxHeartbeats 4000000 in
set_option maxRecDepth 100000 in
theorem m_L_law_b269 {G : jG} {Z0 : jZ} {xs : Nat → Int32} {Ls b k9 n9 : Nat} (E : jE G cL_law RL (Cond.arrayClass .byte :: jT) 8 (some .boolean) room_1 jRL) (hX : va_X b Ls xs (gS G) (gS G).heap ∧ b < (gS G).heap.size ∧ ¬ gA G b) (hV : jV (gA G) (gS G) (gS G).heap) (hl0 : (gL G).stackTraces = false) (hb9 : k9 + 27 ≤ 600002) (hn9 : n9 + 600 ≤ 7302232) (K23 : Nat → Nat → Nat → Int32 → jZ → jI → jL → Prop) (hK23 : ∀ (v1 : Nat) (v2 : Nat) (v3 : Nat) (v4 : Int32) (Z : jZ) (I : jI) (L : jL), SH Z → jext Z0 Z → jk Z v1 11 → jk Z v2 12 → jk Z v3 15 → K23 v1 v2 v3 v4 Z I L → jJ G 8 23 [(0, .ref b), (1, .ref v1), (2, .ref v2), (3, .ref v3), (4, .int v4)] [] Z I L (k9 + 27) (n9 + 600)) (v1 : Nat) (v2 : Nat) (v3 : Nat) (v4 : Int32) (Z : jZ) (I : jI) (L : jL) (hZ : SH Z) (hx : jext Z0 Z) (kv1 : jk Z v1 11) (kv2 : jk Z v2 12) (kv3 : jk Z v3 15) (h : f_L_law_b269 xs Ls K23 v1 v2 v3 v4 Z I L) : jJ G 8 269 [(0, .ref b), (1, .ref v1), (2, .ref v2), (3, .ref v3), (4, .int v4)] [] Z I L (k9 + 0) (n9 + 0) := by
  unfold f_L_law_b269 at h
  refine j_aload_n E dL_law_269 1 rfl ?_
  refine j_aload_n E dL_law_270 0 rfl ?_
  refine j_iload E dL_law_271 4 rfl ?_
  refine j_iconst E (v := 1) dL_law_273 (by decide) ?_
  refine j_iadd E dL_law_274 ?_
  obtain ⟨o17, h⟩ := h
  refine j_sld E hX.1 hX.2.1 hX.2.2 o17 dL_law_275 ?_
  refine j_callV E [.int (xs (v4 + (1 : Int32)).toNatClampNeg)] [] (c_X11_end (gL G) (gD G) (gY G) v1 (xs (v4 + (1 : Int32)).toNatClampNeg) Z I L _ hZ kv1 h) (gwV W_1183 W_1184 W_1185 W_28 W_1182) rfl ⟨rfl, fy_X11_end⟩ ⟨by decide, by decide⟩ (c := 11) rfl (by decide) kv1 rfl rfl (Nat.le_of_ble_eq_true rfl) ⟨by show k9 + 0 + 0 ≤ 600002; omega, by show n9 + 0 + 0 ≤ 7302232; omega⟩ dL_law_276 (fun v18 Z19 I20 L21 q22 => ?_)
  obtain ⟨rfl, r23, rfl, zr23, h⟩ := q22
  show jJ G 8 279 [(0, .ref b), (1, .ref v1), (2, .ref v2), (3, .ref v3), (4, .int v4)] [.int r23] Z I20 L21 (k9 + 0) (n9 + 0)
  refine j_aload_n E dL_law_279 2 rfl ?_
  refine j_aload_n E dL_law_280 0 rfl ?_
  refine j_iload E dL_law_281 4 rfl ?_
  refine j_iconst E (v := 1) dL_law_283 (by decide) ?_
  refine j_iadd E dL_law_284 ?_
  obtain ⟨o24, h⟩ := h
  refine j_sld E hX.1 hX.2.1 hX.2.2 o24 dL_law_285 ?_
  refine j_callV E [.int (xs (v4 + (1 : Int32)).toNatClampNeg)] [.int r23] (c_X12_end (gL G) (gD G) (gY G) v2 (xs (v4 + (1 : Int32)).toNatClampNeg) Z I20 L21 _ hZ kv2 h) (gwV W_1187 W_1188 W_1189 W_679 W_1186) rfl ⟨rfl, fy_X12_end⟩ ⟨by decide, by decide⟩ (c := 12) rfl (by decide) kv2 rfl rfl (Nat.le_of_ble_eq_true rfl) ⟨by show k9 + 0 + 0 ≤ 600002; omega, by show n9 + 0 + 0 ≤ 7302232; omega⟩ dL_law_286 (fun v25 Z26 I27 L28 q29 => ?_)
  obtain ⟨rfl, r30, rfl, zr30, h⟩ := q29
  show jJ G 8 289 [(0, .ref b), (1, .ref v1), (2, .ref v2), (3, .ref v3), (4, .int v4)] [.int r30, .int r23] Z I27 L28 (k9 + 0) (n9 + 0)
  refine j_icmp_eq E 1816 dL_law_289 (by decide) (fun c31 => ?_) (fun c31 => ?_)
  · have h := h.1 c31
    refine j_sub [0, 1, 2, 3, 4] rfl ?_
    refine j_widen (k9 := k9 + 27) (n9 := n9 + 600) (by show k9 + 0 ≤ k9 + 27; omega) (by show n9 + 0 ≤ n9 + 600; omega) ?_
    exact m_L_law_b1816 E hX hV hl0 hb9 hn9 K23 hK23 v1 v2 v3 v4 Z I27 L28 hZ hx kv1 kv2 kv3 h
  · have h := h.2 c31
    refine j_iconst E (v := 0) dL_law_292 (by decide) ?_
    exact h.elim
set_option maxRecDepth 100000 in
def f_L_law_b294 (xs : Nat → Int32) (Ls : Nat) (K23 : Nat → Nat → Nat → Int32 → jZ → jI → jL → Prop) (v1 : Nat) (v2 : Nat) (v3 : Nat) (v4 : Int32) (Z : jZ) (I : jI) (L : jL) : Prop := (f_X11_stairs v1 Z I L (fun r37 I34 L35 => (f_X12_stairs v2 Z I34 L35 (fun r43 Z39 I40 L41 => ((r37 = r43 → f_L_law_b1816 xs Ls K23 v1 v2 v3 v4 Z39 I40 L41) ∧ (¬ (r37 = r43) → False))))))
set_option maxHeartbeats 4000000 in
set_option maxRecDepth 100000 in
theorem m_L_law_b294 {G : jG} {Z0 : jZ} {xs : Nat → Int32} {Ls b k9 n9 : Nat} (E : jE G cL_law RL (Cond.arrayClass .byte :: jT) 8 (some .boolean) room_1 jRL) (hX : va_X b Ls xs (gS G) (gS G).heap ∧ b < (gS G).heap.size ∧ ¬ gA G b) (hV : jV (gA G) (gS G) (gS G).heap) (hl0 : (gL G).stackTraces = false) (hb9 : k9 + 27 ≤ 600002) (hn9 : n9 + 600 ≤ 7302232) (K23 : Nat → Nat → Nat → Int32 → jZ → jI → jL → Prop) (hK23 : ∀ (v1 : Nat) (v2 : Nat) (v3 : Nat) (v4 : Int32) (Z : jZ) (I : jI) (L : jL), SH Z → jext Z0 Z → jk Z v1 11 → jk Z v2 12 → jk Z v3 15 → K23 v1 v2 v3 v4 Z I L → jJ G 8 23 [(0, .ref b), (1, .ref v1), (2, .ref v2), (3, .ref v3), (4, .int v4)] [] Z I L (k9 + 27) (n9 + 600)) (v1 : Nat) (v2 : Nat) (v3 : Nat) (v4 : Int32) (Z : jZ) (I : jI) (L : jL) (hZ : SH Z) (hx : jext Z0 Z) (kv1 : jk Z v1 11) (kv2 : jk Z v2 12) (kv3 : jk Z v3 15) (h : f_L_law_b294 xs Ls K23 v1 v2 v3 v4 Z I L) : jJ G 8 294 [(0, .ref b), (1, .ref v1), (2, .ref v2), (3, .ref v3), (4, .int v4)] [] Z I L (k9 + 0) (n9 + 0) := by
  unfold f_L_law_b294 at h
  refine j_aload_n E dL_law_294 1 rfl ?_
  refine j_callV E [] [] (c_X11_stairs (gL G) (gD G) (gY G) v1 Z I L _ hZ kv1 h) (gwV W_1191 W_1192 W_1193 W_28 W_1190) rfl ⟨rfl, fy_X11_stairs⟩ ⟨by decide, by decide⟩ (c := 11) rfl (by decide) kv1 rfl rfl (Nat.le_of_ble_eq_true rfl) ⟨by show k9 + 0 + 0 ≤ 600002; omega, by show n9 + 0 + 0 ≤ 7302232; omega⟩ dL_law_295 (fun v32 Z33 I34 L35 q36 => ?_)
  obtain ⟨rfl, r37, rfl, h⟩ := q36
  show jJ G 8 298 [(0, .ref b), (1, .ref v1), (2, .ref v2), (3, .ref v3), (4, .int v4)] [.int r37] Z I34 L35 (k9 + 0) (n9 + 0)
  refine j_aload_n E dL_law_298 2 rfl ?_
  refine j_callV E [] [.int r37] (c_X12_stairs (gL G) (gD G) (gY G) v2 Z I34 L35 _ hZ kv2 h) (gwV W_1195 W_1196 W_1197 W_679 W_1194) rfl ⟨rfl, fy_X12_stairs⟩ ⟨by decide, by decide⟩ (c := 12) rfl (by decide) kv2 rfl rfl (Nat.le_of_ble_eq_true rfl) ⟨by show k9 + 0 + 0 ≤ 600002; omega, by show n9 + 0 + 0 ≤ 7302232; omega⟩ dL_law_299 (fun v38 Z39 I40 L41 q42 => ?_)
  obtain ⟨yZ39, hZ39, r43, rfl, h⟩ := q42
  have hZ := hZ39
  have hx : jext Z0 Z39 := jext_trans hx yZ39
  have k44 := (yZ39 _ _ kv1).1
  have k45 := (yZ39 _ _ kv2).1
  have k46 := (yZ39 _ _ kv3).1
  show jJ G 8 302 [(0, .ref b), (1, .ref v1), (2, .ref v2), (3, .ref v3), (4, .int v4)] [.int r43, .int r37] Z39 I40 L41 (k9 + 0) (n9 + 0)
  refine j_icmp_eq E 1816 dL_law_302 (by decide) (fun c47 => ?_) (fun c47 => ?_)
  · have h := h.1 c47
    refine j_sub [0, 1, 2, 3, 4] rfl ?_
    refine j_widen (k9 := k9 + 27) (n9 := n9 + 600) (by show k9 + 0 ≤ k9 + 27; omega) (by show n9 + 0 ≤ n9 + 600; omega) ?_
    exact m_L_law_b1816 E hX hV hl0 hb9 hn9 K23 hK23 v1 v2 v3 v4 Z39 I40 L41 hZ hx k44 k45 k46 h
  · have h := h.2 c47
    refine j_iconst E (v := 0) dL_law_305 (by decide) ?_
    exact h.elim
set_option maxRecDepth 100000 in
def f_L_law_b307 (xs : Nat → Int32) (Ls : Nat) (K23 : Nat → Nat → Nat → Int32 → jZ → jI → jL → Prop) (v1 : Nat) (v2 : Nat) (v3 : Nat) (v4 : Int32) (Z : jZ) (I : jI) (L : jL) : Prop := (vp_in (v4 + (1 : Int32)) Ls ∧ (f_X11_law v1 (xs (v4 + (1 : Int32)).toNatClampNeg) Z I L (fun r54 I51 L52 => (vp_in (v4 + (1 : Int32)) Ls ∧ (f_X12_law v2 (xs (v4 + (1 : Int32)).toNatClampNeg) Z I51 L52 (fun r61 Z57 I58 L59 => ((r54 = r61 → f_L_law_b1816 xs Ls K23 v1 v2 v3 v4 Z57 I58 L59) ∧ (¬ (r54 = r61) → False))))))))
set_option maxHeartbeats 4000000 in
set_option maxRecDepth 100000 in
theorem m_L_law_b307 {G : jG} {Z0 : jZ} {xs : Nat → Int32} {Ls b k9 n9 : Nat} (E : jE G cL_law RL (Cond.arrayClass .byte :: jT) 8 (some .boolean) room_1 jRL) (hX : va_X b Ls xs (gS G) (gS G).heap ∧ b < (gS G).heap.size ∧ ¬ gA G b) (hV : jV (gA G) (gS G) (gS G).heap) (hl0 : (gL G).stackTraces = false) (hb9 : k9 + 27 ≤ 600002) (hn9 : n9 + 600 ≤ 7302232) (K23 : Nat → Nat → Nat → Int32 → jZ → jI → jL → Prop) (hK23 : ∀ (v1 : Nat) (v2 : Nat) (v3 : Nat) (v4 : Int32) (Z : jZ) (I : jI) (L : jL), SH Z → jext Z0 Z → jk Z v1 11 → jk Z v2 12 → jk Z v3 15 → K23 v1 v2 v3 v4 Z I L → jJ G 8 23 [(0, .ref b), (1, .ref v1), (2, .ref v2), (3, .ref v3), (4, .int v4)] [] Z I L (k9 + 27) (n9 + 600)) (v1 : Nat) (v2 : Nat) (v3 : Nat) (v4 : Int32) (Z : jZ) (I : jI) (L : jL) (hZ : SH Z) (hx : jext Z0 Z) (kv1 : jk Z v1 11) (kv2 : jk Z v2 12) (kv3 : jk Z v3 15) (h : f_L_law_b307 xs Ls K23 v1 v2 v3 v4 Z I L) : jJ G 8 307 [(0, .ref b), (1, .ref v1), (2, .ref v2), (3, .ref v3), (4, .int v4)] [] Z I L (k9 + 0) (n9 + 0) := by
  unfold f_L_law_b307 at h
  refine j_aload_n E dL_law_307 1 rfl ?_
  refine j_aload_n E dL_law_308 0 rfl ?_
  refine j_iload E dL_law_309 4 rfl ?_
  refine j_iconst E (v := 1) dL_law_311 (by decide) ?_
  refine j_iadd E dL_law_312 ?_
  obtain ⟨o48, h⟩ := h
  refine j_sld E hX.1 hX.2.1 hX.2.2 o48 dL_law_313 ?_
  refine j_callV E [.int (xs (v4 + (1 : Int32)).toNatClampNeg)] [] (c_X11_law (gL G) (gD G) (gY G) v1 (xs (v4 + (1 : Int32)).toNatClampNeg) Z I L _ hZ kv1 h) (gwV W_1199 W_1200 W_1201 W_28 W_1198) rfl ⟨rfl, fy_X11_law⟩ ⟨by decide, by decide⟩ (c := 11) rfl (by decide) kv1 rfl rfl (Nat.le_of_ble_eq_true rfl) ⟨by show k9 + 0 + 0 ≤ 600002; omega, by show n9 + 0 + 0 ≤ 7302232; omega⟩ dL_law_314 (fun v49 Z50 I51 L52 q53 => ?_)
  obtain ⟨rfl, r54, rfl, h⟩ := q53
  show jJ G 8 317 [(0, .ref b), (1, .ref v1), (2, .ref v2), (3, .ref v3), (4, .int v4)] [.int r54] Z I51 L52 (k9 + 0) (n9 + 0)
  refine j_aload_n E dL_law_317 2 rfl ?_
  refine j_aload_n E dL_law_318 0 rfl ?_
  refine j_iload E dL_law_319 4 rfl ?_
  refine j_iconst E (v := 1) dL_law_321 (by decide) ?_
  refine j_iadd E dL_law_322 ?_
  obtain ⟨o55, h⟩ := h
  refine j_sld E hX.1 hX.2.1 hX.2.2 o55 dL_law_323 ?_
  refine j_callV E [.int (xs (v4 + (1 : Int32)).toNatClampNeg)] [.int r54] (c_X12_law (gL G) (gD G) (gY G) v2 (xs (v4 + (1 : Int32)).toNatClampNeg) Z I51 L52 _ hZ kv2 h) (gwV W_1203 W_1204 W_1205 W_679 W_1202) rfl ⟨rfl, fy_X12_law⟩ ⟨by decide, by decide⟩ (c := 12) rfl (by decide) kv2 rfl rfl (Nat.le_of_ble_eq_true rfl) ⟨by show k9 + 0 + 0 ≤ 600002; omega, by show n9 + 0 + 0 ≤ 7302232; omega⟩ dL_law_324 (fun v56 Z57 I58 L59 q60 => ?_)
  obtain ⟨yZ57, hZ57, r61, rfl, h⟩ := q60
  have hZ := hZ57
  have hx : jext Z0 Z57 := jext_trans hx yZ57
  have k62 := (yZ57 _ _ kv1).1
  have k63 := (yZ57 _ _ kv2).1
  have k64 := (yZ57 _ _ kv3).1
  show jJ G 8 327 [(0, .ref b), (1, .ref v1), (2, .ref v2), (3, .ref v3), (4, .int v4)] [.int r61, .int r54] Z57 I58 L59 (k9 + 0) (n9 + 0)
  refine j_icmp_eq E 1816 dL_law_327 (by decide) (fun c65 => ?_) (fun c65 => ?_)
  · have h := h.1 c65
    refine j_sub [0, 1, 2, 3, 4] rfl ?_
    refine j_widen (k9 := k9 + 27) (n9 := n9 + 600) (by show k9 + 0 ≤ k9 + 27; omega) (by show n9 + 0 ≤ n9 + 600; omega) ?_
    exact m_L_law_b1816 E hX hV hl0 hb9 hn9 K23 hK23 v1 v2 v3 v4 Z57 I58 L59 hZ hx k62 k63 k64 h
  · have h := h.2 c65
    refine j_iconst E (v := 0) dL_law_330 (by decide) ?_
    exact h.elim
set_option maxRecDepth 100000 in
def f_L_law_b397 (xs : Nat → Int32) (Ls : Nat) (K23 : Nat → Nat → Nat → Int32 → jZ → jI → jL → Prop) (v1 : Nat) (v2 : Nat) (v3 : Nat) (v4 : Int32) (Z : jZ) (I : jI) (L : jL) : Prop := f_L_law_b1816 xs Ls K23 v1 v2 v3 v4 Z I L
set_option maxHeartbeats 4000000 in
set_option maxRecDepth 100000 in
theorem m_L_law_b397 {G : jG} {Z0 : jZ} {xs : Nat → Int32} {Ls b k9 n9 : Nat} (E : jE G cL_law RL (Cond.arrayClass .byte :: jT) 8 (some .boolean) room_1 jRL) (hX : va_X b Ls xs (gS G) (gS G).heap ∧ b < (gS G).heap.size ∧ ¬ gA G b) (hV : jV (gA G) (gS G) (gS G).heap) (hl0 : (gL G).stackTraces = false) (hb9 : k9 + 27 ≤ 600002) (hn9 : n9 + 600 ≤ 7302232) (K23 : Nat → Nat → Nat → Int32 → jZ → jI → jL → Prop) (hK23 : ∀ (v1 : Nat) (v2 : Nat) (v3 : Nat) (v4 : Int32) (Z : jZ) (I : jI) (L : jL), SH Z → jext Z0 Z → jk Z v1 11 → jk Z v2 12 → jk Z v3 15 → K23 v1 v2 v3 v4 Z I L → jJ G 8 23 [(0, .ref b), (1, .ref v1), (2, .ref v2), (3, .ref v3), (4, .int v4)] [] Z I L (k9 + 27) (n9 + 600)) (v1 : Nat) (v2 : Nat) (v3 : Nat) (v4 : Int32) (Z : jZ) (I : jI) (L : jL) (hZ : SH Z) (hx : jext Z0 Z) (kv1 : jk Z v1 11) (kv2 : jk Z v2 12) (kv3 : jk Z v3 15) (h : f_L_law_b397 xs Ls K23 v1 v2 v3 v4 Z I L) : jJ G 8 397 [(0, .ref b), (1, .ref v1), (2, .ref v2), (3, .ref v3), (4, .int v4)] [] Z I L (k9 + 27) (n9 + 600) := by
  unfold f_L_law_b397 at h
  refine j_goto E 1816 dL_law_397 (by decide) ?_
  refine j_sub [0, 1, 2, 3, 4] rfl ?_
  refine j_widen (k9 := k9 + 27) (n9 := n9 + 600) (by show k9 + 27 ≤ k9 + 27; omega) (by show n9 + 600 ≤ n9 + 600; omega) ?_
  exact m_L_law_b1816 E hX hV hl0 hb9 hn9 K23 hK23 v1 v2 v3 v4 Z I L hZ hx kv1 kv2 kv3 h
set_option maxRecDepth 100000 in
def f_L_law_b332 (xs : Nat → Int32) (Ls : Nat) (K23 : Nat → Nat → Nat → Int32 → jZ → jI → jL → Prop) (v1 : Nat) (v2 : Nat) (v3 : Nat) (v4 : Int32) (Z : jZ) (I : jI) (L : jL) : Prop := (vp_in (v4 + (1 : Int32)) Ls ∧ (vp_in (v4 + (2 : Int32)) Ls ∧ (f_L_step v1 (xs (v4 + (1 : Int32)).toNatClampNeg) (xs (v4 + (2 : Int32)).toNatClampNeg) v3 Z I L (fun r73 I70 L71 => (vp_in (v4 + (1 : Int32)) Ls ∧ (vp_in (v4 + (2 : Int32)) Ls ∧ (f_X12_step v2 (xs (v4 + (1 : Int32)).toNatClampNeg) (xs (v4 + (2 : Int32)).toNatClampNeg) Z I70 L71 (fun r81 I78 L79 => (f_X12_thrown v2 Z I78 L79 (fun r87 I84 L85 => ((r87 = r73 → ((¬ r73 = 0 → f_L_law_b397 xs Ls K23 v1 v2 v3 v4 Z I84 L85) ∧ (r73 = 0 → (vp_in (0 : Int32) (jlen Z v3) ∧ (((lg_cmp (L85 v3 (0 : Int32).toNatClampNeg) (r81.toInt64)) = 0 → f_L_law_b397 xs Ls K23 v1 v2 v3 v4 Z I84 L85) ∧ (¬ ((lg_cmp (L85 v3 (0 : Int32).toNatClampNeg) (r81.toInt64)) = 0) → False)))))) ∧ (¬ (r87 = r73) → False))))))))))))
set_option maxHeartbeats 4000000 in
set_option maxRecDepth 100000 in
theorem m_L_law_b332 {G : jG} {Z0 : jZ} {xs : Nat → Int32} {Ls b k9 n9 : Nat} (E : jE G cL_law RL (Cond.arrayClass .byte :: jT) 8 (some .boolean) room_1 jRL) (hX : va_X b Ls xs (gS G) (gS G).heap ∧ b < (gS G).heap.size ∧ ¬ gA G b) (hV : jV (gA G) (gS G) (gS G).heap) (hl0 : (gL G).stackTraces = false) (hb9 : k9 + 27 ≤ 600002) (hn9 : n9 + 600 ≤ 7302232) (K23 : Nat → Nat → Nat → Int32 → jZ → jI → jL → Prop) (hK23 : ∀ (v1 : Nat) (v2 : Nat) (v3 : Nat) (v4 : Int32) (Z : jZ) (I : jI) (L : jL), SH Z → jext Z0 Z → jk Z v1 11 → jk Z v2 12 → jk Z v3 15 → K23 v1 v2 v3 v4 Z I L → jJ G 8 23 [(0, .ref b), (1, .ref v1), (2, .ref v2), (3, .ref v3), (4, .int v4)] [] Z I L (k9 + 27) (n9 + 600)) (v1 : Nat) (v2 : Nat) (v3 : Nat) (v4 : Int32) (Z : jZ) (I : jI) (L : jL) (hZ : SH Z) (hx : jext Z0 Z) (kv1 : jk Z v1 11) (kv2 : jk Z v2 12) (kv3 : jk Z v3 15) (h : f_L_law_b332 xs Ls K23 v1 v2 v3 v4 Z I L) : jJ G 8 332 [(0, .ref b), (1, .ref v1), (2, .ref v2), (3, .ref v3), (4, .int v4)] [] Z I L (k9 + 0) (n9 + 0) := by
  unfold f_L_law_b332 at h
  refine j_aload_n E dL_law_332 1 rfl ?_
  refine j_aload_n E dL_law_333 0 rfl ?_
  refine j_iload E dL_law_334 4 rfl ?_
  refine j_iconst E (v := 1) dL_law_336 (by decide) ?_
  refine j_iadd E dL_law_337 ?_
  obtain ⟨o66, h⟩ := h
  refine j_sld E hX.1 hX.2.1 hX.2.2 o66 dL_law_338 ?_
  refine j_aload_n E dL_law_339 0 rfl ?_
  refine j_iload E dL_law_340 4 rfl ?_
  refine j_iconst E (v := 2) dL_law_342 (by decide) ?_
  refine j_iadd E dL_law_343 ?_
  obtain ⟨o67, h⟩ := h
  refine j_sld E hX.1 hX.2.1 hX.2.2 o67 dL_law_344 ?_
  refine j_aload_n E dL_law_345 3 rfl ?_
  refine j_callSH E hV [.ref v1, .int (xs (v4 + (1 : Int32)).toNatClampNeg), .int (xs (v4 + (2 : Int32)).toNatClampNeg), .ref v3] [] (c_L_step (gL G) hl0 (gD G) (gY G) v1 (xs (v4 + (1 : Int32)).toNatClampNeg) (xs (v4 + (2 : Int32)).toNatClampNeg) v3 Z I L _ hZ kv1 kv3 h) (gwS W_1207 W_1208 W_1206 W_1209) rfl fy_L_step ⟨by decide, by decide⟩ rfl rfl (Nat.le_of_ble_eq_true rfl) ⟨by show k9 + 0 + 1 ≤ 600002; omega, by show n9 + 0 + 6 ≤ 7302232; omega⟩ dL_law_346 (fun v68 Z69 I70 L71 q72 => ?_)
  obtain ⟨rfl, r73, rfl, h⟩ := q72
  show jJ G 8 349 [(0, .ref b), (1, .ref v1), (2, .ref v2), (3, .ref v3), (4, .int v4)] [.int r73] Z I70 L71 (k9 + 1) (n9 + 6)
  refine j_istore E 5 [(5, .int r73), (0, .ref b), (1, .ref v1), (2, .ref v2), (3, .ref v3), (4, .int v4)] dL_law_349 (by decide) rfl ?_
  refine j_aload_n E dL_law_351 3 rfl ?_
  refine j_aload_n E dL_law_352 1 rfl ?_
  refine j_iload E dL_law_353 5 rfl ?_
  refine j_iconst E (v := 1) dL_law_355 (by decide) ?_
  refine j_iadd E dL_law_356 ?_
  obtain ⟨o74, h⟩ := h
  refine j_sld E hX.1 hX.2.1 hX.2.2 o74 dL_law_357 ?_
  refine j_aload_n E dL_law_358 1 rfl ?_
  refine j_iload E dL_law_359 5 rfl ?_
  refine j_iconst E (v := 2) dL_law_361 (by decide) ?_
  refine j_iadd E dL_law_362 ?_
  obtain ⟨o75, h⟩ := h
  refine j_sld E hX.1 hX.2.1 hX.2.2 o75 dL_law_363 ?_
  refine j_callV E [.int (xs (v4 + (1 : Int32)).toNatClampNeg), .int (xs (v4 + (2 : Int32)).toNatClampNeg)] [] (c_X12_step (gL G) (gD G) (gY G) v2 (xs (v4 + (1 : Int32)).toNatClampNeg) (xs (v4 + (2 : Int32)).toNatClampNeg) Z I70 L71 _ hZ kv2 h) (gwV W_1211 W_1212 W_1213 W_679 W_1210) rfl ⟨rfl, fy_X12_step⟩ ⟨by decide, by decide⟩ (c := 12) rfl (by decide) kv2 rfl rfl (Nat.le_of_ble_eq_true rfl) ⟨by show k9 + 1 + 0 ≤ 600002; omega, by show n9 + 6 + 0 ≤ 7302232; omega⟩ dL_law_364 (fun v76 Z77 I78 L79 q80 => ?_)
  obtain ⟨rfl, r81, rfl, h⟩ := q80
  show jJ G 8 367 [(5, .int r73), (0, .ref b), (1, .ref v1), (2, .ref v2), (3, .ref v3), (4, .int v4)] [.int r81] Z I78 L79 (k9 + 1) (n9 + 6)
  refine j_istore E 6 [(6, .int r81), (5, .int r73), (0, .ref b), (1, .ref v1), (2, .ref v2), (3, .ref v3), (4, .int v4)] dL_law_367 (by decide) rfl ?_
  refine j_aload_n E dL_law_369 4 rfl ?_
  refine j_callV E [] [] (c_X12_thrown (gL G) (gD G) (gY G) v2 Z I78 L79 _ hZ kv2 h) (gwV W_1215 W_1216 W_1217 W_679 W_1214) rfl ⟨rfl, fy_X12_thrown⟩ ⟨by decide, by decide⟩ (c := 12) rfl (by decide) kv2 rfl rfl (Nat.le_of_ble_eq_true rfl) ⟨by show k9 + 1 + 0 ≤ 600002; omega, by show n9 + 6 + 0 ≤ 7302232; omega⟩ dL_law_370 (fun v82 Z83 I84 L85 q86 => ?_)
  obtain ⟨rfl, r87, rfl, h⟩ := q86
  show jJ G 8 373 [(6, .int r81), (5, .int r73), (0, .ref b), (1, .ref v1), (2, .ref v2), (3, .ref v3), (4, .int v4)] [.int r87] Z I84 L85 (k9 + 1) (n9 + 6)
  refine j_iload E dL_law_373 1 rfl ?_
  refine j_icmp_eq E 380 dL_law_375 (by decide) (fun c88 => ?_) (fun c88 => ?_)
  · have h := h.1 c88
    refine j_iload E dL_law_380 1 rfl ?_
    refine j_if_ne E 397 dL_law_382 (by decide) (fun c89 => ?_) (fun c89 => ?_)
    · have h := h.1 c89
      refine j_sub [2, 3, 4, 5, 6] rfl ?_
      refine j_widen (k9 := k9 + 27) (n9 := n9 + 600) (by show k9 + 1 ≤ k9 + 27; omega) (by show n9 + 6 ≤ n9 + 600; omega) ?_
      exact m_L_law_b397 E hX hV hl0 hb9 hn9 K23 hK23 v1 v2 v3 v4 Z I84 L85 hZ hx kv1 kv2 kv3 h
    · have h := h.2 c89
      refine j_aload_n E dL_law_385 5 rfl ?_
      refine j_iconst E (v := 0) dL_law_386 (by decide) ?_
      obtain ⟨o90, h⟩ := h
      refine j_lald E kv3 o90 dL_law_387 ?_
      refine j_iload E dL_law_388 0 rfl ?_
      refine j_i2l E dL_law_390 ?_
      refine j_lcmp E dL_law_391 ?_
      refine j_if_eq E 397 dL_law_392 (by decide) (fun c91 => ?_) (fun c91 => ?_)
      · have h := h.1 c91
        refine j_sub [2, 3, 4, 5, 6] rfl ?_
        refine j_widen (k9 := k9 + 27) (n9 := n9 + 600) (by show k9 + 1 ≤ k9 + 27; omega) (by show n9 + 6 ≤ n9 + 600; omega) ?_
        exact m_L_law_b397 E hX hV hl0 hb9 hn9 K23 hK23 v1 v2 v3 v4 Z I84 L85 hZ hx kv1 kv2 kv3 h
      · have h := h.2 c91
        refine j_iconst E (v := 0) dL_law_395 (by decide) ?_
        exact h.elim
  · have h := h.2 c88
    refine j_iconst E (v := 0) dL_law_378 (by decide) ?_
    exact h.elim
set_option maxRecDepth 100000 in
def f_L_law_b400 (xs : Nat → Int32) (Ls : Nat) (K23 : Nat → Nat → Nat → Int32 → jZ → jI → jL → Prop) (v1 : Nat) (v2 : Nat) (v3 : Nat) (v4 : Int32) (Z : jZ) (I : jI) (L : jL) : Prop := (vp_in (v4 + (1 : Int32)) Ls ∧ (vp_in (v4 + (2 : Int32)) Ls ∧ (vp_in (v4 + (3 : Int32)) Ls ∧ (f_X11_set v1 (xs (v4 + (1 : Int32)).toNatClampNeg) (xs (v4 + (2 : Int32)).toNatClampNeg) (xs (v4 + (3 : Int32)).toNatClampNeg) Z I L (fun r100 I97 L98 => (vp_in (v4 + (1 : Int32)) Ls ∧ (vp_in (v4 + (2 : Int32)) Ls ∧ (vp_in (v4 + (3 : Int32)) Ls ∧ (f_X12_set v2 (xs (v4 + (1 : Int32)).toNatClampNeg) (xs (v4 + (2 : Int32)).toNatClampNeg) (xs (v4 + (3 : Int32)).toNatClampNeg) Z I97 L98 (fun r109 I106 L107 => ((r100 = r109 → f_L_law_b1816 xs Ls K23 v1 v2 v3 v4 Z I106 L107) ∧ (¬ (r100 = r109) → False))))))))))))
set_option maxHeartbeats 4000000 in
set_option maxRecDepth 100000 in
theorem m_L_law_b400 {G : jG} {Z0 : jZ} {xs : Nat → Int32} {Ls b k9 n9 : Nat} (E : jE G cL_law RL (Cond.arrayClass .byte :: jT) 8 (some .boolean) room_1 jRL) (hX : va_X b Ls xs (gS G) (gS G).heap ∧ b < (gS G).heap.size ∧ ¬ gA G b) (hV : jV (gA G) (gS G) (gS G).heap) (hl0 : (gL G).stackTraces = false) (hb9 : k9 + 27 ≤ 600002) (hn9 : n9 + 600 ≤ 7302232) (K23 : Nat → Nat → Nat → Int32 → jZ → jI → jL → Prop) (hK23 : ∀ (v1 : Nat) (v2 : Nat) (v3 : Nat) (v4 : Int32) (Z : jZ) (I : jI) (L : jL), SH Z → jext Z0 Z → jk Z v1 11 → jk Z v2 12 → jk Z v3 15 → K23 v1 v2 v3 v4 Z I L → jJ G 8 23 [(0, .ref b), (1, .ref v1), (2, .ref v2), (3, .ref v3), (4, .int v4)] [] Z I L (k9 + 27) (n9 + 600)) (v1 : Nat) (v2 : Nat) (v3 : Nat) (v4 : Int32) (Z : jZ) (I : jI) (L : jL) (hZ : SH Z) (hx : jext Z0 Z) (kv1 : jk Z v1 11) (kv2 : jk Z v2 12) (kv3 : jk Z v3 15) (h : f_L_law_b400 xs Ls K23 v1 v2 v3 v4 Z I L) : jJ G 8 400 [(0, .ref b), (1, .ref v1), (2, .ref v2), (3, .ref v3), (4, .int v4)] [] Z I L (k9 + 0) (n9 + 0) := by
  unfold f_L_law_b400 at h
  refine j_aload_n E dL_law_400 1 rfl ?_
  refine j_aload_n E dL_law_401 0 rfl ?_
  refine j_iload E dL_law_402 4 rfl ?_
  refine j_iconst E (v := 1) dL_law_404 (by decide) ?_
  refine j_iadd E dL_law_405 ?_
  obtain ⟨o92, h⟩ := h
  refine j_sld E hX.1 hX.2.1 hX.2.2 o92 dL_law_406 ?_
  refine j_aload_n E dL_law_407 0 rfl ?_
  refine j_iload E dL_law_408 4 rfl ?_
  refine j_iconst E (v := 2) dL_law_410 (by decide) ?_
  refine j_iadd E dL_law_411 ?_
  obtain ⟨o93, h⟩ := h
  refine j_sld E hX.1 hX.2.1 hX.2.2 o93 dL_law_412 ?_
  refine j_aload_n E dL_law_413 0 rfl ?_
  refine j_iload E dL_law_414 4 rfl ?_
  refine j_iconst E (v := 3) dL_law_416 (by decide) ?_
  refine j_iadd E dL_law_417 ?_
  obtain ⟨o94, h⟩ := h
  refine j_sld E hX.1 hX.2.1 hX.2.2 o94 dL_law_418 ?_
  refine j_callV E [.int (xs (v4 + (1 : Int32)).toNatClampNeg), .int (xs (v4 + (2 : Int32)).toNatClampNeg), .int (xs (v4 + (3 : Int32)).toNatClampNeg)] [] (c_X11_set (gL G) (gD G) (gY G) v1 (xs (v4 + (1 : Int32)).toNatClampNeg) (xs (v4 + (2 : Int32)).toNatClampNeg) (xs (v4 + (3 : Int32)).toNatClampNeg) Z I L _ hZ kv1 h) (gwV W_1219 W_1220 W_1221 W_28 W_1218) rfl ⟨rfl, fy_X11_set⟩ ⟨by decide, by decide⟩ (c := 11) rfl (by decide) kv1 rfl rfl (Nat.le_of_ble_eq_true rfl) ⟨by show k9 + 0 + 0 ≤ 600002; omega, by show n9 + 0 + 0 ≤ 7302232; omega⟩ dL_law_419 (fun v95 Z96 I97 L98 q99 => ?_)
  obtain ⟨rfl, r100, rfl, h⟩ := q99
  show jJ G 8 422 [(0, .ref b), (1, .ref v1), (2, .ref v2), (3, .ref v3), (4, .int v4)] [.int r100] Z I97 L98 (k9 + 0) (n9 + 0)
  refine j_aload_n E dL_law_422 2 rfl ?_
  refine j_aload_n E dL_law_423 0 rfl ?_
  refine j_iload E dL_law_424 4 rfl ?_
  refine j_iconst E (v := 1) dL_law_426 (by decide) ?_
  refine j_iadd E dL_law_427 ?_
  obtain ⟨o101, h⟩ := h
  refine j_sld E hX.1 hX.2.1 hX.2.2 o101 dL_law_428 ?_
  refine j_aload_n E dL_law_429 0 rfl ?_
  refine j_iload E dL_law_430 4 rfl ?_
  refine j_iconst E (v := 2) dL_law_432 (by decide) ?_
  refine j_iadd E dL_law_433 ?_
  obtain ⟨o102, h⟩ := h
  refine j_sld E hX.1 hX.2.1 hX.2.2 o102 dL_law_434 ?_
  refine j_aload_n E dL_law_435 0 rfl ?_
  refine j_iload E dL_law_436 4 rfl ?_
  refine j_iconst E (v := 3) dL_law_438 (by decide) ?_
  refine j_iadd E dL_law_439 ?_
  obtain ⟨o103, h⟩ := h
  refine j_sld E hX.1 hX.2.1 hX.2.2 o103 dL_law_440 ?_
  refine j_callV E [.int (xs (v4 + (1 : Int32)).toNatClampNeg), .int (xs (v4 + (2 : Int32)).toNatClampNeg), .int (xs (v4 + (3 : Int32)).toNatClampNeg)] [.int r100] (c_X12_set (gL G) (gD G) (gY G) v2 (xs (v4 + (1 : Int32)).toNatClampNeg) (xs (v4 + (2 : Int32)).toNatClampNeg) (xs (v4 + (3 : Int32)).toNatClampNeg) Z I97 L98 _ hZ kv2 h) (gwV W_1223 W_1224 W_1225 W_679 W_1222) rfl ⟨rfl, fy_X12_set⟩ ⟨by decide, by decide⟩ (c := 12) rfl (by decide) kv2 rfl rfl (Nat.le_of_ble_eq_true rfl) ⟨by show k9 + 0 + 0 ≤ 600002; omega, by show n9 + 0 + 0 ≤ 7302232; omega⟩ dL_law_441 (fun v104 Z105 I106 L107 q108 => ?_)
  obtain ⟨rfl, r109, rfl, h⟩ := q108
  show jJ G 8 444 [(0, .ref b), (1, .ref v1), (2, .ref v2), (3, .ref v3), (4, .int v4)] [.int r109, .int r100] Z I106 L107 (k9 + 0) (n9 + 0)
  refine j_icmp_eq E 1816 dL_law_444 (by decide) (fun c110 => ?_) (fun c110 => ?_)
  · have h := h.1 c110
    refine j_sub [0, 1, 2, 3, 4] rfl ?_
    refine j_widen (k9 := k9 + 27) (n9 := n9 + 600) (by show k9 + 0 ≤ k9 + 27; omega) (by show n9 + 0 ≤ n9 + 600; omega) ?_
    exact m_L_law_b1816 E hX hV hl0 hb9 hn9 K23 hK23 v1 v2 v3 v4 Z I106 L107 hZ hx kv1 kv2 kv3 h
  · have h := h.2 c110
    refine j_iconst E (v := 0) dL_law_447 (by decide) ?_
    exact h.elim
set_option maxRecDepth 100000 in
def f_L_law_b449 (xs : Nat → Int32) (Ls : Nat) (K23 : Nat → Nat → Nat → Int32 → jZ → jI → jL → Prop) (v1 : Nat) (v2 : Nat) (v3 : Nat) (v4 : Int32) (Z : jZ) (I : jI) (L : jL) : Prop := (vp_in (v4 + (1 : Int32)) Ls ∧ (vp_in (v4 + (2 : Int32)) Ls ∧ (vp_in (v4 + (3 : Int32)) Ls ∧ (vp_in (v4 + (4 : Int32)) Ls ∧ (f_X11_sheet v1 (xs (v4 + (1 : Int32)).toNatClampNeg) (xs (v4 + (2 : Int32)).toNatClampNeg) (xs (v4 + (3 : Int32)).toNatClampNeg) (xs (v4 + (4 : Int32)).toNatClampNeg) Z I L (fun r120 I117 L118 => (vp_in (v4 + (1 : Int32)) Ls ∧ (vp_in (v4 + (2 : Int32)) Ls ∧ (vp_in (v4 + (3 : Int32)) Ls ∧ (vp_in (v4 + (4 : Int32)) Ls ∧ (f_X12_sheet v2 (xs (v4 + (1 : Int32)).toNatClampNeg) (xs (v4 + (2 : Int32)).toNatClampNeg) (xs (v4 + (3 : Int32)).toNatClampNeg) (xs (v4 + (4 : Int32)).toNatClampNeg) Z I117 L118 (fun r130 I127 L128 => ((r120 = r130 → f_L_law_b1816 xs Ls K23 v1 v2 v3 v4 Z I127 L128) ∧ (¬ (r120 = r130) → False))))))))))))))
set_option maxHeartbeats 4000000 in
set_option maxRecDepth 100000 in
theorem m_L_law_b449 {G : jG} {Z0 : jZ} {xs : Nat → Int32} {Ls b k9 n9 : Nat} (E : jE G cL_law RL (Cond.arrayClass .byte :: jT) 8 (some .boolean) room_1 jRL) (hX : va_X b Ls xs (gS G) (gS G).heap ∧ b < (gS G).heap.size ∧ ¬ gA G b) (hV : jV (gA G) (gS G) (gS G).heap) (hl0 : (gL G).stackTraces = false) (hb9 : k9 + 27 ≤ 600002) (hn9 : n9 + 600 ≤ 7302232) (K23 : Nat → Nat → Nat → Int32 → jZ → jI → jL → Prop) (hK23 : ∀ (v1 : Nat) (v2 : Nat) (v3 : Nat) (v4 : Int32) (Z : jZ) (I : jI) (L : jL), SH Z → jext Z0 Z → jk Z v1 11 → jk Z v2 12 → jk Z v3 15 → K23 v1 v2 v3 v4 Z I L → jJ G 8 23 [(0, .ref b), (1, .ref v1), (2, .ref v2), (3, .ref v3), (4, .int v4)] [] Z I L (k9 + 27) (n9 + 600)) (v1 : Nat) (v2 : Nat) (v3 : Nat) (v4 : Int32) (Z : jZ) (I : jI) (L : jL) (hZ : SH Z) (hx : jext Z0 Z) (kv1 : jk Z v1 11) (kv2 : jk Z v2 12) (kv3 : jk Z v3 15) (h : f_L_law_b449 xs Ls K23 v1 v2 v3 v4 Z I L) : jJ G 8 449 [(0, .ref b), (1, .ref v1), (2, .ref v2), (3, .ref v3), (4, .int v4)] [] Z I L (k9 + 0) (n9 + 0) := by
  unfold f_L_law_b449 at h
  refine j_aload_n E dL_law_449 1 rfl ?_
  refine j_aload_n E dL_law_450 0 rfl ?_
  refine j_iload E dL_law_451 4 rfl ?_
  refine j_iconst E (v := 1) dL_law_453 (by decide) ?_
  refine j_iadd E dL_law_454 ?_
  obtain ⟨o111, h⟩ := h
  refine j_sld E hX.1 hX.2.1 hX.2.2 o111 dL_law_455 ?_
  refine j_aload_n E dL_law_456 0 rfl ?_
  refine j_iload E dL_law_457 4 rfl ?_
  refine j_iconst E (v := 2) dL_law_459 (by decide) ?_
  refine j_iadd E dL_law_460 ?_
  obtain ⟨o112, h⟩ := h
  refine j_sld E hX.1 hX.2.1 hX.2.2 o112 dL_law_461 ?_
  refine j_aload_n E dL_law_462 0 rfl ?_
  refine j_iload E dL_law_463 4 rfl ?_
  refine j_iconst E (v := 3) dL_law_465 (by decide) ?_
  refine j_iadd E dL_law_466 ?_
  obtain ⟨o113, h⟩ := h
  refine j_sld E hX.1 hX.2.1 hX.2.2 o113 dL_law_467 ?_
  refine j_aload_n E dL_law_468 0 rfl ?_
  refine j_iload E dL_law_469 4 rfl ?_
  refine j_iconst E (v := 4) dL_law_471 (by decide) ?_
  refine j_iadd E dL_law_472 ?_
  obtain ⟨o114, h⟩ := h
  refine j_sld E hX.1 hX.2.1 hX.2.2 o114 dL_law_473 ?_
  refine j_callV E [.int (xs (v4 + (1 : Int32)).toNatClampNeg), .int (xs (v4 + (2 : Int32)).toNatClampNeg), .int (xs (v4 + (3 : Int32)).toNatClampNeg), .int (xs (v4 + (4 : Int32)).toNatClampNeg)] [] (c_X11_sheet (gL G) (gD G) (gY G) v1 (xs (v4 + (1 : Int32)).toNatClampNeg) (xs (v4 + (2 : Int32)).toNatClampNeg) (xs (v4 + (3 : Int32)).toNatClampNeg) (xs (v4 + (4 : Int32)).toNatClampNeg) Z I L _ hZ kv1 h) (gwV W_1227 W_1228 W_1229 W_28 W_1226) rfl ⟨rfl, fy_X11_sheet⟩ ⟨by decide, by decide⟩ (c := 11) rfl (by decide) kv1 rfl rfl (Nat.le_of_ble_eq_true rfl) ⟨by show k9 + 0 + 0 ≤ 600002; omega, by show n9 + 0 + 0 ≤ 7302232; omega⟩ dL_law_474 (fun v115 Z116 I117 L118 q119 => ?_)
  obtain ⟨rfl, r120, rfl, h⟩ := q119
  show jJ G 8 477 [(0, .ref b), (1, .ref v1), (2, .ref v2), (3, .ref v3), (4, .int v4)] [.int r120] Z I117 L118 (k9 + 0) (n9 + 0)
  refine j_aload_n E dL_law_477 2 rfl ?_
  refine j_aload_n E dL_law_478 0 rfl ?_
  refine j_iload E dL_law_479 4 rfl ?_
  refine j_iconst E (v := 1) dL_law_481 (by decide) ?_
  refine j_iadd E dL_law_482 ?_
  obtain ⟨o121, h⟩ := h
  refine j_sld E hX.1 hX.2.1 hX.2.2 o121 dL_law_483 ?_
  refine j_aload_n E dL_law_484 0 rfl ?_
  refine j_iload E dL_law_485 4 rfl ?_
  refine j_iconst E (v := 2) dL_law_487 (by decide) ?_
  refine j_iadd E dL_law_488 ?_
  obtain ⟨o122, h⟩ := h
  refine j_sld E hX.1 hX.2.1 hX.2.2 o122 dL_law_489 ?_
  refine j_aload_n E dL_law_490 0 rfl ?_
  refine j_iload E dL_law_491 4 rfl ?_
  refine j_iconst E (v := 3) dL_law_493 (by decide) ?_
  refine j_iadd E dL_law_494 ?_
  obtain ⟨o123, h⟩ := h
  refine j_sld E hX.1 hX.2.1 hX.2.2 o123 dL_law_495 ?_
  refine j_aload_n E dL_law_496 0 rfl ?_
  refine j_iload E dL_law_497 4 rfl ?_
  refine j_iconst E (v := 4) dL_law_499 (by decide) ?_
  refine j_iadd E dL_law_500 ?_
  obtain ⟨o124, h⟩ := h
  refine j_sld E hX.1 hX.2.1 hX.2.2 o124 dL_law_501 ?_
  refine j_callV E [.int (xs (v4 + (1 : Int32)).toNatClampNeg), .int (xs (v4 + (2 : Int32)).toNatClampNeg), .int (xs (v4 + (3 : Int32)).toNatClampNeg), .int (xs (v4 + (4 : Int32)).toNatClampNeg)] [.int r120] (c_X12_sheet (gL G) (gD G) (gY G) v2 (xs (v4 + (1 : Int32)).toNatClampNeg) (xs (v4 + (2 : Int32)).toNatClampNeg) (xs (v4 + (3 : Int32)).toNatClampNeg) (xs (v4 + (4 : Int32)).toNatClampNeg) Z I117 L118 _ hZ kv2 h) (gwV W_1231 W_1232 W_1233 W_679 W_1230) rfl ⟨rfl, fy_X12_sheet⟩ ⟨by decide, by decide⟩ (c := 12) rfl (by decide) kv2 rfl rfl (Nat.le_of_ble_eq_true rfl) ⟨by show k9 + 0 + 0 ≤ 600002; omega, by show n9 + 0 + 0 ≤ 7302232; omega⟩ dL_law_502 (fun v125 Z126 I127 L128 q129 => ?_)
  obtain ⟨rfl, r130, rfl, h⟩ := q129
  show jJ G 8 505 [(0, .ref b), (1, .ref v1), (2, .ref v2), (3, .ref v3), (4, .int v4)] [.int r130, .int r120] Z I127 L128 (k9 + 0) (n9 + 0)
  refine j_icmp_eq E 1816 dL_law_505 (by decide) (fun c131 => ?_) (fun c131 => ?_)
  · have h := h.1 c131
    refine j_sub [0, 1, 2, 3, 4] rfl ?_
    refine j_widen (k9 := k9 + 27) (n9 := n9 + 600) (by show k9 + 0 ≤ k9 + 27; omega) (by show n9 + 0 ≤ n9 + 600; omega) ?_
    exact m_L_law_b1816 E hX hV hl0 hb9 hn9 K23 hK23 v1 v2 v3 v4 Z I127 L128 hZ hx kv1 kv2 kv3 h
  · have h := h.2 c131
    refine j_iconst E (v := 0) dL_law_508 (by decide) ?_
    exact h.elim
set_option maxRecDepth 100000 in
def f_L_law_b567 (xs : Nat → Int32) (Ls : Nat) (K23 : Nat → Nat → Nat → Int32 → jZ → jI → jL → Prop) (v1 : Nat) (v2 : Nat) (v3 : Nat) (v4 : Int32) (s0 : Int32) (s1 : Nat) (s2 : Int32) (s3 : Int32) (s4 : Int32) (Z : jZ) (I : jI) (L : jL) : Prop := (f_X12_feud s1 s2 s3 s4 Z I L (fun r137 I134 L135 => ((s0 = r137 → f_L_law_b1816 xs Ls K23 v1 v2 v3 v4 Z I134 L135) ∧ (¬ (s0 = r137) → False))))
set_option maxHeartbeats 4000000 in
set_option maxRecDepth 100000 in
theorem m_L_law_b567 {G : jG} {Z0 : jZ} {xs : Nat → Int32} {Ls b k9 n9 : Nat} (E : jE G cL_law RL (Cond.arrayClass .byte :: jT) 8 (some .boolean) room_1 jRL) (hX : va_X b Ls xs (gS G) (gS G).heap ∧ b < (gS G).heap.size ∧ ¬ gA G b) (hV : jV (gA G) (gS G) (gS G).heap) (hl0 : (gL G).stackTraces = false) (hb9 : k9 + 27 ≤ 600002) (hn9 : n9 + 600 ≤ 7302232) (K23 : Nat → Nat → Nat → Int32 → jZ → jI → jL → Prop) (hK23 : ∀ (v1 : Nat) (v2 : Nat) (v3 : Nat) (v4 : Int32) (Z : jZ) (I : jI) (L : jL), SH Z → jext Z0 Z → jk Z v1 11 → jk Z v2 12 → jk Z v3 15 → K23 v1 v2 v3 v4 Z I L → jJ G 8 23 [(0, .ref b), (1, .ref v1), (2, .ref v2), (3, .ref v3), (4, .int v4)] [] Z I L (k9 + 27) (n9 + 600)) (v1 : Nat) (v2 : Nat) (v3 : Nat) (v4 : Int32) (s0 : Int32) (s1 : Nat) (s2 : Int32) (s3 : Int32) (s4 : Int32) (Z : jZ) (I : jI) (L : jL) (hZ : SH Z) (hx : jext Z0 Z) (kv1 : jk Z v1 11) (kv2 : jk Z v2 12) (kv3 : jk Z v3 15) (ks1 : jk Z s1 12) (h : f_L_law_b567 xs Ls K23 v1 v2 v3 v4 s0 s1 s2 s3 s4 Z I L) : jJ G 8 567 [(0, .ref b), (1, .ref v1), (2, .ref v2), (3, .ref v3), (4, .int v4)] [.int s4, .int s3, .int s2, .ref s1, .int s0] Z I L (k9 + 27) (n9 + 600) := by
  unfold f_L_law_b567 at h
  refine j_callV E [.int s2, .int s3, .int s4] [.int s0] (c_X12_feud (gL G) (gD G) (gY G) s1 s2 s3 s4 Z I L _ hZ ks1 h) (gwV W_1235 W_1236 W_1237 W_679 W_1234) rfl ⟨rfl, fy_X12_feud⟩ ⟨by decide, by decide⟩ (c := 12) rfl (by decide) ks1 rfl rfl (Nat.le_of_ble_eq_true rfl) ⟨by show k9 + 27 + 0 ≤ 600002; omega, by show n9 + 600 + 0 ≤ 7302232; omega⟩ dL_law_567 (fun v132 Z133 I134 L135 q136 => ?_)
  obtain ⟨rfl, r137, rfl, zr137, h⟩ := q136
  show jJ G 8 570 [(0, .ref b), (1, .ref v1), (2, .ref v2), (3, .ref v3), (4, .int v4)] [.int r137, .int s0] Z I134 L135 (k9 + 27) (n9 + 600)
  refine j_icmp_eq E 1816 dL_law_570 (by decide) (fun c138 => ?_) (fun c138 => ?_)
  · have h := h.1 c138
    refine j_sub [0, 1, 2, 3, 4] rfl ?_
    refine j_widen (k9 := k9 + 27) (n9 := n9 + 600) (by show k9 + 27 ≤ k9 + 27; omega) (by show n9 + 600 ≤ n9 + 600; omega) ?_
    exact m_L_law_b1816 E hX hV hl0 hb9 hn9 K23 hK23 v1 v2 v3 v4 Z I134 L135 hZ hx kv1 kv2 kv3 h
  · have h := h.2 c138
    refine j_iconst E (v := 0) dL_law_573 (by decide) ?_
    exact h.elim
set_option maxRecDepth 100000 in
def f_L_law_b537 (xs : Nat → Int32) (Ls : Nat) (K23 : Nat → Nat → Nat → Int32 → jZ → jI → jL → Prop) (v1 : Nat) (v2 : Nat) (v3 : Nat) (v4 : Int32) (s0 : Nat) (s1 : Int32) (s2 : Int32) (s3 : Int32) (Z : jZ) (I : jI) (L : jL) : Prop := (f_X11_feud s0 s1 s2 s3 Z I L (fun r144 I141 L142 => (vp_in (v4 + (1 : Int32)) Ls ∧ (vp_in (v4 + (2 : Int32)) Ls ∧ (vp_in (v4 + (3 : Int32)) Ls ∧ (((xs (v4 + (3 : Int32)).toNatClampNeg) = 0 → f_L_law_b567 xs Ls K23 v1 v2 v3 v4 r144 v2 (xs (v4 + (1 : Int32)).toNatClampNeg) (xs (v4 + (2 : Int32)).toNatClampNeg) (0 : Int32) Z I141 L142) ∧ (¬ ((xs (v4 + (3 : Int32)).toNatClampNeg) = 0) → f_L_law_b567 xs Ls K23 v1 v2 v3 v4 r144 v2 (xs (v4 + (1 : Int32)).toNatClampNeg) (xs (v4 + (2 : Int32)).toNatClampNeg) (1 : Int32) Z I141 L142)))))))
set_option maxHeartbeats 4000000 in
set_option maxRecDepth 100000 in
theorem m_L_law_b537 {G : jG} {Z0 : jZ} {xs : Nat → Int32} {Ls b k9 n9 : Nat} (E : jE G cL_law RL (Cond.arrayClass .byte :: jT) 8 (some .boolean) room_1 jRL) (hX : va_X b Ls xs (gS G) (gS G).heap ∧ b < (gS G).heap.size ∧ ¬ gA G b) (hV : jV (gA G) (gS G) (gS G).heap) (hl0 : (gL G).stackTraces = false) (hb9 : k9 + 27 ≤ 600002) (hn9 : n9 + 600 ≤ 7302232) (K23 : Nat → Nat → Nat → Int32 → jZ → jI → jL → Prop) (hK23 : ∀ (v1 : Nat) (v2 : Nat) (v3 : Nat) (v4 : Int32) (Z : jZ) (I : jI) (L : jL), SH Z → jext Z0 Z → jk Z v1 11 → jk Z v2 12 → jk Z v3 15 → K23 v1 v2 v3 v4 Z I L → jJ G 8 23 [(0, .ref b), (1, .ref v1), (2, .ref v2), (3, .ref v3), (4, .int v4)] [] Z I L (k9 + 27) (n9 + 600)) (v1 : Nat) (v2 : Nat) (v3 : Nat) (v4 : Int32) (s0 : Nat) (s1 : Int32) (s2 : Int32) (s3 : Int32) (Z : jZ) (I : jI) (L : jL) (hZ : SH Z) (hx : jext Z0 Z) (kv1 : jk Z v1 11) (kv2 : jk Z v2 12) (kv3 : jk Z v3 15) (ks0 : jk Z s0 11) (h : f_L_law_b537 xs Ls K23 v1 v2 v3 v4 s0 s1 s2 s3 Z I L) : jJ G 8 537 [(0, .ref b), (1, .ref v1), (2, .ref v2), (3, .ref v3), (4, .int v4)] [.int s3, .int s2, .int s1, .ref s0] Z I L (k9 + 27) (n9 + 600) := by
  unfold f_L_law_b537 at h
  refine j_callV E [.int s1, .int s2, .int s3] [] (c_X11_feud (gL G) (gD G) (gY G) s0 s1 s2 s3 Z I L _ hZ ks0 h) (gwV W_1239 W_1240 W_1241 W_28 W_1238) rfl ⟨rfl, fy_X11_feud⟩ ⟨by decide, by decide⟩ (c := 11) rfl (by decide) ks0 rfl rfl (Nat.le_of_ble_eq_true rfl) ⟨by show k9 + 27 + 0 ≤ 600002; omega, by show n9 + 600 + 0 ≤ 7302232; omega⟩ dL_law_537 (fun v139 Z140 I141 L142 q143 => ?_)
  obtain ⟨rfl, r144, rfl, zr144, h⟩ := q143
  show jJ G 8 540 [(0, .ref b), (1, .ref v1), (2, .ref v2), (3, .ref v3), (4, .int v4)] [.int r144] Z I141 L142 (k9 + 27) (n9 + 600)
  refine j_aload_n E dL_law_540 2 rfl ?_
  refine j_aload_n E dL_law_541 0 rfl ?_
  refine j_iload E dL_law_542 4 rfl ?_
  refine j_iconst E (v := 1) dL_law_544 (by decide) ?_
  refine j_iadd E dL_law_545 ?_
  obtain ⟨o145, h⟩ := h
  refine j_sld E hX.1 hX.2.1 hX.2.2 o145 dL_law_546 ?_
  refine j_aload_n E dL_law_547 0 rfl ?_
  refine j_iload E dL_law_548 4 rfl ?_
  refine j_iconst E (v := 2) dL_law_550 (by decide) ?_
  refine j_iadd E dL_law_551 ?_
  obtain ⟨o146, h⟩ := h
  refine j_sld E hX.1 hX.2.1 hX.2.2 o146 dL_law_552 ?_
  refine j_aload_n E dL_law_553 0 rfl ?_
  refine j_iload E dL_law_554 4 rfl ?_
  refine j_iconst E (v := 3) dL_law_556 (by decide) ?_
  refine j_iadd E dL_law_557 ?_
  obtain ⟨o147, h⟩ := h
  refine j_sld E hX.1 hX.2.1 hX.2.2 o147 dL_law_558 ?_
  refine j_if_eq E 566 dL_law_559 (by decide) (fun c148 => ?_) (fun c148 => ?_)
  · have h := h.1 c148
    refine j_iconst E (v := 0) dL_law_566 (by decide) ?_
    refine j_sub [0, 1, 2, 3, 4] rfl ?_
    refine j_widen (k9 := k9 + 27) (n9 := n9 + 600) (by show k9 + 27 ≤ k9 + 27; omega) (by show n9 + 600 ≤ n9 + 600; omega) ?_
    exact m_L_law_b567 E hX hV hl0 hb9 hn9 K23 hK23 v1 v2 v3 v4 r144 v2 (xs (v4 + (1 : Int32)).toNatClampNeg) (xs (v4 + (2 : Int32)).toNatClampNeg) (0 : Int32) Z I141 L142 hZ hx kv1 kv2 kv3 kv2 h
  · have h := h.2 c148
    refine j_iconst E (v := 1) dL_law_562 (by decide) ?_
    refine j_goto E 567 dL_law_563 (by decide) ?_
    refine j_sub [0, 1, 2, 3, 4] rfl ?_
    refine j_widen (k9 := k9 + 27) (n9 := n9 + 600) (by show k9 + 27 ≤ k9 + 27; omega) (by show n9 + 600 ≤ n9 + 600; omega) ?_
    exact m_L_law_b567 E hX hV hl0 hb9 hn9 K23 hK23 v1 v2 v3 v4 r144 v2 (xs (v4 + (1 : Int32)).toNatClampNeg) (xs (v4 + (2 : Int32)).toNatClampNeg) (1 : Int32) Z I141 L142 hZ hx kv1 kv2 kv3 kv2 h
set_option maxRecDepth 100000 in
def f_L_law_b510 (xs : Nat → Int32) (Ls : Nat) (K23 : Nat → Nat → Nat → Int32 → jZ → jI → jL → Prop) (v1 : Nat) (v2 : Nat) (v3 : Nat) (v4 : Int32) (Z : jZ) (I : jI) (L : jL) : Prop := (vp_in (v4 + (1 : Int32)) Ls ∧ (vp_in (v4 + (2 : Int32)) Ls ∧ (vp_in (v4 + (3 : Int32)) Ls ∧ (((xs (v4 + (3 : Int32)).toNatClampNeg) = 0 → f_L_law_b537 xs Ls K23 v1 v2 v3 v4 v1 (xs (v4 + (1 : Int32)).toNatClampNeg) (xs (v4 + (2 : Int32)).toNatClampNeg) (0 : Int32) Z I L) ∧ (¬ ((xs (v4 + (3 : Int32)).toNatClampNeg) = 0) → f_L_law_b537 xs Ls K23 v1 v2 v3 v4 v1 (xs (v4 + (1 : Int32)).toNatClampNeg) (xs (v4 + (2 : Int32)).toNatClampNeg) (1 : Int32) Z I L)))))
set_option maxHeartbeats 4000000 in
set_option maxRecDepth 100000 in
theorem m_L_law_b510 {G : jG} {Z0 : jZ} {xs : Nat → Int32} {Ls b k9 n9 : Nat} (E : jE G cL_law RL (Cond.arrayClass .byte :: jT) 8 (some .boolean) room_1 jRL) (hX : va_X b Ls xs (gS G) (gS G).heap ∧ b < (gS G).heap.size ∧ ¬ gA G b) (hV : jV (gA G) (gS G) (gS G).heap) (hl0 : (gL G).stackTraces = false) (hb9 : k9 + 27 ≤ 600002) (hn9 : n9 + 600 ≤ 7302232) (K23 : Nat → Nat → Nat → Int32 → jZ → jI → jL → Prop) (hK23 : ∀ (v1 : Nat) (v2 : Nat) (v3 : Nat) (v4 : Int32) (Z : jZ) (I : jI) (L : jL), SH Z → jext Z0 Z → jk Z v1 11 → jk Z v2 12 → jk Z v3 15 → K23 v1 v2 v3 v4 Z I L → jJ G 8 23 [(0, .ref b), (1, .ref v1), (2, .ref v2), (3, .ref v3), (4, .int v4)] [] Z I L (k9 + 27) (n9 + 600)) (v1 : Nat) (v2 : Nat) (v3 : Nat) (v4 : Int32) (Z : jZ) (I : jI) (L : jL) (hZ : SH Z) (hx : jext Z0 Z) (kv1 : jk Z v1 11) (kv2 : jk Z v2 12) (kv3 : jk Z v3 15) (h : f_L_law_b510 xs Ls K23 v1 v2 v3 v4 Z I L) : jJ G 8 510 [(0, .ref b), (1, .ref v1), (2, .ref v2), (3, .ref v3), (4, .int v4)] [] Z I L (k9 + 0) (n9 + 0) := by
  unfold f_L_law_b510 at h
  refine j_aload_n E dL_law_510 1 rfl ?_
  refine j_aload_n E dL_law_511 0 rfl ?_
  refine j_iload E dL_law_512 4 rfl ?_
  refine j_iconst E (v := 1) dL_law_514 (by decide) ?_
  refine j_iadd E dL_law_515 ?_
  obtain ⟨o149, h⟩ := h
  refine j_sld E hX.1 hX.2.1 hX.2.2 o149 dL_law_516 ?_
  refine j_aload_n E dL_law_517 0 rfl ?_
  refine j_iload E dL_law_518 4 rfl ?_
  refine j_iconst E (v := 2) dL_law_520 (by decide) ?_
  refine j_iadd E dL_law_521 ?_
  obtain ⟨o150, h⟩ := h
  refine j_sld E hX.1 hX.2.1 hX.2.2 o150 dL_law_522 ?_
  refine j_aload_n E dL_law_523 0 rfl ?_
  refine j_iload E dL_law_524 4 rfl ?_
  refine j_iconst E (v := 3) dL_law_526 (by decide) ?_
  refine j_iadd E dL_law_527 ?_
  obtain ⟨o151, h⟩ := h
  refine j_sld E hX.1 hX.2.1 hX.2.2 o151 dL_law_528 ?_
  refine j_if_eq E 536 dL_law_529 (by decide) (fun c152 => ?_) (fun c152 => ?_)
  · have h := h.1 c152
    refine j_iconst E (v := 0) dL_law_536 (by decide) ?_
    refine j_sub [0, 1, 2, 3, 4] rfl ?_
    refine j_widen (k9 := k9 + 27) (n9 := n9 + 600) (by show k9 + 0 ≤ k9 + 27; omega) (by show n9 + 0 ≤ n9 + 600; omega) ?_
    exact m_L_law_b537 E hX hV hl0 hb9 hn9 K23 hK23 v1 v2 v3 v4 v1 (xs (v4 + (1 : Int32)).toNatClampNeg) (xs (v4 + (2 : Int32)).toNatClampNeg) (0 : Int32) Z I L hZ hx kv1 kv2 kv3 kv1 h
  · have h := h.2 c152
    refine j_iconst E (v := 1) dL_law_532 (by decide) ?_
    refine j_goto E 537 dL_law_533 (by decide) ?_
    refine j_sub [0, 1, 2, 3, 4] rfl ?_
    refine j_widen (k9 := k9 + 27) (n9 := n9 + 600) (by show k9 + 0 ≤ k9 + 27; omega) (by show n9 + 0 ≤ n9 + 600; omega) ?_
    exact m_L_law_b537 E hX hV hl0 hb9 hn9 K23 hK23 v1 v2 v3 v4 v1 (xs (v4 + (1 : Int32)).toNatClampNeg) (xs (v4 + (2 : Int32)).toNatClampNeg) (1 : Int32) Z I L hZ hx kv1 kv2 kv3 kv1 h
set_option maxRecDepth 100000 in
def f_L_law_b575 (xs : Nat → Int32) (Ls : Nat) (K23 : Nat → Nat → Nat → Int32 → jZ → jI → jL → Prop) (v1 : Nat) (v2 : Nat) (v3 : Nat) (v4 : Int32) (Z : jZ) (I : jI) (L : jL) : Prop := (vp_in (v4 + (1 : Int32)) Ls ∧ (f_X11_wears v1 (xs (v4 + (1 : Int32)).toNatClampNeg) Z I L (fun r159 I156 L157 => (vp_in (v4 + (1 : Int32)) Ls ∧ (f_X12_wears v2 (xs (v4 + (1 : Int32)).toNatClampNeg) Z I156 L157 (fun r166 I163 L164 => ((r159 = r166 → f_L_law_b1816 xs Ls K23 v1 v2 v3 v4 Z I163 L164) ∧ (¬ (r159 = r166) → False))))))))
set_option maxHeartbeats 4000000 in
set_option maxRecDepth 100000 in
theorem m_L_law_b575 {G : jG} {Z0 : jZ} {xs : Nat → Int32} {Ls b k9 n9 : Nat} (E : jE G cL_law RL (Cond.arrayClass .byte :: jT) 8 (some .boolean) room_1 jRL) (hX : va_X b Ls xs (gS G) (gS G).heap ∧ b < (gS G).heap.size ∧ ¬ gA G b) (hV : jV (gA G) (gS G) (gS G).heap) (hl0 : (gL G).stackTraces = false) (hb9 : k9 + 27 ≤ 600002) (hn9 : n9 + 600 ≤ 7302232) (K23 : Nat → Nat → Nat → Int32 → jZ → jI → jL → Prop) (hK23 : ∀ (v1 : Nat) (v2 : Nat) (v3 : Nat) (v4 : Int32) (Z : jZ) (I : jI) (L : jL), SH Z → jext Z0 Z → jk Z v1 11 → jk Z v2 12 → jk Z v3 15 → K23 v1 v2 v3 v4 Z I L → jJ G 8 23 [(0, .ref b), (1, .ref v1), (2, .ref v2), (3, .ref v3), (4, .int v4)] [] Z I L (k9 + 27) (n9 + 600)) (v1 : Nat) (v2 : Nat) (v3 : Nat) (v4 : Int32) (Z : jZ) (I : jI) (L : jL) (hZ : SH Z) (hx : jext Z0 Z) (kv1 : jk Z v1 11) (kv2 : jk Z v2 12) (kv3 : jk Z v3 15) (h : f_L_law_b575 xs Ls K23 v1 v2 v3 v4 Z I L) : jJ G 8 575 [(0, .ref b), (1, .ref v1), (2, .ref v2), (3, .ref v3), (4, .int v4)] [] Z I L (k9 + 0) (n9 + 0) := by
  unfold f_L_law_b575 at h
  refine j_aload_n E dL_law_575 1 rfl ?_
  refine j_aload_n E dL_law_576 0 rfl ?_
  refine j_iload E dL_law_577 4 rfl ?_
  refine j_iconst E (v := 1) dL_law_579 (by decide) ?_
  refine j_iadd E dL_law_580 ?_
  obtain ⟨o153, h⟩ := h
  refine j_sld E hX.1 hX.2.1 hX.2.2 o153 dL_law_581 ?_
  refine j_callV E [.int (xs (v4 + (1 : Int32)).toNatClampNeg)] [] (c_X11_wears (gL G) (gD G) (gY G) v1 (xs (v4 + (1 : Int32)).toNatClampNeg) Z I L _ hZ kv1 h) (gwV W_1243 W_1244 W_1245 W_28 W_1242) rfl ⟨rfl, fy_X11_wears⟩ ⟨by decide, by decide⟩ (c := 11) rfl (by decide) kv1 rfl rfl (Nat.le_of_ble_eq_true rfl) ⟨by show k9 + 0 + 0 ≤ 600002; omega, by show n9 + 0 + 0 ≤ 7302232; omega⟩ dL_law_582 (fun v154 Z155 I156 L157 q158 => ?_)
  obtain ⟨rfl, r159, rfl, h⟩ := q158
  show jJ G 8 585 [(0, .ref b), (1, .ref v1), (2, .ref v2), (3, .ref v3), (4, .int v4)] [.int r159] Z I156 L157 (k9 + 0) (n9 + 0)
  refine j_aload_n E dL_law_585 2 rfl ?_
  refine j_aload_n E dL_law_586 0 rfl ?_
  refine j_iload E dL_law_587 4 rfl ?_
  refine j_iconst E (v := 1) dL_law_589 (by decide) ?_
  refine j_iadd E dL_law_590 ?_
  obtain ⟨o160, h⟩ := h
  refine j_sld E hX.1 hX.2.1 hX.2.2 o160 dL_law_591 ?_
  refine j_callV E [.int (xs (v4 + (1 : Int32)).toNatClampNeg)] [.int r159] (c_X12_wears (gL G) (gD G) (gY G) v2 (xs (v4 + (1 : Int32)).toNatClampNeg) Z I156 L157 _ hZ kv2 h) (gwV W_1247 W_1248 W_1249 W_679 W_1246) rfl ⟨rfl, fy_X12_wears⟩ ⟨by decide, by decide⟩ (c := 12) rfl (by decide) kv2 rfl rfl (Nat.le_of_ble_eq_true rfl) ⟨by show k9 + 0 + 0 ≤ 600002; omega, by show n9 + 0 + 0 ≤ 7302232; omega⟩ dL_law_592 (fun v161 Z162 I163 L164 q165 => ?_)
  obtain ⟨rfl, r166, rfl, h⟩ := q165
  show jJ G 8 595 [(0, .ref b), (1, .ref v1), (2, .ref v2), (3, .ref v3), (4, .int v4)] [.int r166, .int r159] Z I163 L164 (k9 + 0) (n9 + 0)
  refine j_icmp_eq E 1816 dL_law_595 (by decide) (fun c167 => ?_) (fun c167 => ?_)
  · have h := h.1 c167
    refine j_sub [0, 1, 2, 3, 4] rfl ?_
    refine j_widen (k9 := k9 + 27) (n9 := n9 + 600) (by show k9 + 0 ≤ k9 + 27; omega) (by show n9 + 0 ≤ n9 + 600; omega) ?_
    exact m_L_law_b1816 E hX hV hl0 hb9 hn9 K23 hK23 v1 v2 v3 v4 Z I163 L164 hZ hx kv1 kv2 kv3 h
  · have h := h.2 c167
    refine j_iconst E (v := 0) dL_law_598 (by decide) ?_
    exact h.elim
set_option maxRecDepth 100000 in
def f_L_law_b600 (xs : Nat → Int32) (Ls : Nat) (K23 : Nat → Nat → Nat → Int32 → jZ → jI → jL → Prop) (v1 : Nat) (v2 : Nat) (v3 : Nat) (v4 : Int32) (Z : jZ) (I : jI) (L : jL) : Prop := (vp_in (v4 + (1 : Int32)) Ls ∧ (vp_in (v4 + (2 : Int32)) Ls ∧ (vp_in (v4 + (3 : Int32)) Ls ∧ (vp_in (v4 + (4 : Int32)) Ls ∧ (f_X11_pilgrim v1 (xs (v4 + (1 : Int32)).toNatClampNeg) (xs (v4 + (2 : Int32)).toNatClampNeg) (xs (v4 + (3 : Int32)).toNatClampNeg) (xs (v4 + (4 : Int32)).toNatClampNeg) Z I L (fun r177 Z173 I174 L175 => (vp_in (v4 + (1 : Int32)) Ls ∧ (vp_in (v4 + (2 : Int32)) Ls ∧ (vp_in (v4 + (3 : Int32)) Ls ∧ (vp_in (v4 + (4 : Int32)) Ls ∧ (f_X12_pilgrim v2 (xs (v4 + (1 : Int32)).toNatClampNeg) (xs (v4 + (2 : Int32)).toNatClampNeg) (xs (v4 + (3 : Int32)).toNatClampNeg) (xs (v4 + (4 : Int32)).toNatClampNeg) Z173 I174 L175 (fun r190 I187 L188 => ((r177 = r190 → f_L_law_b1816 xs Ls K23 v1 v2 v3 v4 Z173 I187 L188) ∧ (¬ (r177 = r190) → False))))))))))))))
set_option maxHeartbeats 4000000 in
set_option maxRecDepth 100000 in
theorem m_L_law_b600 {G : jG} {Z0 : jZ} {xs : Nat → Int32} {Ls b k9 n9 : Nat} (E : jE G cL_law RL (Cond.arrayClass .byte :: jT) 8 (some .boolean) room_1 jRL) (hX : va_X b Ls xs (gS G) (gS G).heap ∧ b < (gS G).heap.size ∧ ¬ gA G b) (hV : jV (gA G) (gS G) (gS G).heap) (hl0 : (gL G).stackTraces = false) (hb9 : k9 + 27 ≤ 600002) (hn9 : n9 + 600 ≤ 7302232) (K23 : Nat → Nat → Nat → Int32 → jZ → jI → jL → Prop) (hK23 : ∀ (v1 : Nat) (v2 : Nat) (v3 : Nat) (v4 : Int32) (Z : jZ) (I : jI) (L : jL), SH Z → jext Z0 Z → jk Z v1 11 → jk Z v2 12 → jk Z v3 15 → K23 v1 v2 v3 v4 Z I L → jJ G 8 23 [(0, .ref b), (1, .ref v1), (2, .ref v2), (3, .ref v3), (4, .int v4)] [] Z I L (k9 + 27) (n9 + 600)) (v1 : Nat) (v2 : Nat) (v3 : Nat) (v4 : Int32) (Z : jZ) (I : jI) (L : jL) (hZ : SH Z) (hx : jext Z0 Z) (kv1 : jk Z v1 11) (kv2 : jk Z v2 12) (kv3 : jk Z v3 15) (h : f_L_law_b600 xs Ls K23 v1 v2 v3 v4 Z I L) : jJ G 8 600 [(0, .ref b), (1, .ref v1), (2, .ref v2), (3, .ref v3), (4, .int v4)] [] Z I L (k9 + 0) (n9 + 0) := by
  unfold f_L_law_b600 at h
  refine j_aload_n E dL_law_600 1 rfl ?_
  refine j_aload_n E dL_law_601 0 rfl ?_
  refine j_iload E dL_law_602 4 rfl ?_
  refine j_iconst E (v := 1) dL_law_604 (by decide) ?_
  refine j_iadd E dL_law_605 ?_
  obtain ⟨o168, h⟩ := h
  refine j_sld E hX.1 hX.2.1 hX.2.2 o168 dL_law_606 ?_
  refine j_aload_n E dL_law_607 0 rfl ?_
  refine j_iload E dL_law_608 4 rfl ?_
  refine j_iconst E (v := 2) dL_law_610 (by decide) ?_
  refine j_iadd E dL_law_611 ?_
  obtain ⟨o169, h⟩ := h
  refine j_sld E hX.1 hX.2.1 hX.2.2 o169 dL_law_612 ?_
  refine j_aload_n E dL_law_613 0 rfl ?_
  refine j_iload E dL_law_614 4 rfl ?_
  refine j_iconst E (v := 3) dL_law_616 (by decide) ?_
  refine j_iadd E dL_law_617 ?_
  obtain ⟨o170, h⟩ := h
  refine j_sld E hX.1 hX.2.1 hX.2.2 o170 dL_law_618 ?_
  refine j_aload_n E dL_law_619 0 rfl ?_
  refine j_iload E dL_law_620 4 rfl ?_
  refine j_iconst E (v := 4) dL_law_622 (by decide) ?_
  refine j_iadd E dL_law_623 ?_
  obtain ⟨o171, h⟩ := h
  refine j_sld E hX.1 hX.2.1 hX.2.2 o171 dL_law_624 ?_
  refine j_callV E [.int (xs (v4 + (1 : Int32)).toNatClampNeg), .int (xs (v4 + (2 : Int32)).toNatClampNeg), .int (xs (v4 + (3 : Int32)).toNatClampNeg), .int (xs (v4 + (4 : Int32)).toNatClampNeg)] [] (c_X11_pilgrim (gL G) (gD G) (gY G) v1 (xs (v4 + (1 : Int32)).toNatClampNeg) (xs (v4 + (2 : Int32)).toNatClampNeg) (xs (v4 + (3 : Int32)).toNatClampNeg) (xs (v4 + (4 : Int32)).toNatClampNeg) Z I L _ hZ kv1 h) (gwV W_1251 W_1252 W_1253 W_28 W_1250) rfl ⟨rfl, fy_X11_pilgrim⟩ ⟨by decide, by decide⟩ (c := 11) rfl (by decide) kv1 rfl rfl (Nat.le_of_ble_eq_true rfl) ⟨by show k9 + 0 + 26 ≤ 600002; omega, by show n9 + 0 + 585 ≤ 7302232; omega⟩ dL_law_625 (fun v172 Z173 I174 L175 q176 => ?_)
  obtain ⟨yZ173, hZ173, r177, rfl, h⟩ := q176
  have hZ := hZ173
  have hx : jext Z0 Z173 := jext_trans hx yZ173
  have k178 := (yZ173 _ _ kv1).1
  have k179 := (yZ173 _ _ kv2).1
  have k180 := (yZ173 _ _ kv3).1
  show jJ G 8 628 [(0, .ref b), (1, .ref v1), (2, .ref v2), (3, .ref v3), (4, .int v4)] [.int r177] Z173 I174 L175 (k9 + 26) (n9 + 585)
  refine j_aload_n E dL_law_628 2 rfl ?_
  refine j_aload_n E dL_law_629 0 rfl ?_
  refine j_iload E dL_law_630 4 rfl ?_
  refine j_iconst E (v := 1) dL_law_632 (by decide) ?_
  refine j_iadd E dL_law_633 ?_
  obtain ⟨o181, h⟩ := h
  refine j_sld E hX.1 hX.2.1 hX.2.2 o181 dL_law_634 ?_
  refine j_aload_n E dL_law_635 0 rfl ?_
  refine j_iload E dL_law_636 4 rfl ?_
  refine j_iconst E (v := 2) dL_law_638 (by decide) ?_
  refine j_iadd E dL_law_639 ?_
  obtain ⟨o182, h⟩ := h
  refine j_sld E hX.1 hX.2.1 hX.2.2 o182 dL_law_640 ?_
  refine j_aload_n E dL_law_641 0 rfl ?_
  refine j_iload E dL_law_642 4 rfl ?_
  refine j_iconst E (v := 3) dL_law_644 (by decide) ?_
  refine j_iadd E dL_law_645 ?_
  obtain ⟨o183, h⟩ := h
  refine j_sld E hX.1 hX.2.1 hX.2.2 o183 dL_law_646 ?_
  refine j_aload_n E dL_law_647 0 rfl ?_
  refine j_iload E dL_law_648 4 rfl ?_
  refine j_iconst E (v := 4) dL_law_650 (by decide) ?_
  refine j_iadd E dL_law_651 ?_
  obtain ⟨o184, h⟩ := h
  refine j_sld E hX.1 hX.2.1 hX.2.2 o184 dL_law_652 ?_
  refine j_callV E [.int (xs (v4 + (1 : Int32)).toNatClampNeg), .int (xs (v4 + (2 : Int32)).toNatClampNeg), .int (xs (v4 + (3 : Int32)).toNatClampNeg), .int (xs (v4 + (4 : Int32)).toNatClampNeg)] [.int r177] (c_X12_pilgrim (gL G) (gD G) (gY G) v2 (xs (v4 + (1 : Int32)).toNatClampNeg) (xs (v4 + (2 : Int32)).toNatClampNeg) (xs (v4 + (3 : Int32)).toNatClampNeg) (xs (v4 + (4 : Int32)).toNatClampNeg) Z173 I174 L175 _ hZ k179 h) (gwV W_1255 W_1256 W_1257 W_679 W_1254) rfl ⟨rfl, fy_X12_pilgrim⟩ ⟨by decide, by decide⟩ (c := 12) rfl (by decide) k179 rfl rfl (Nat.le_of_ble_eq_true rfl) ⟨by show k9 + 26 + 0 ≤ 600002; omega, by show n9 + 585 + 0 ≤ 7302232; omega⟩ dL_law_653 (fun v185 Z186 I187 L188 q189 => ?_)
  obtain ⟨rfl, r190, rfl, h⟩ := q189
  show jJ G 8 656 [(0, .ref b), (1, .ref v1), (2, .ref v2), (3, .ref v3), (4, .int v4)] [.int r190, .int r177] Z173 I187 L188 (k9 + 26) (n9 + 585)
  refine j_icmp_eq E 1816 dL_law_656 (by decide) (fun c191 => ?_) (fun c191 => ?_)
  · have h := h.1 c191
    refine j_sub [0, 1, 2, 3, 4] rfl ?_
    refine j_widen (k9 := k9 + 27) (n9 := n9 + 600) (by show k9 + 26 ≤ k9 + 27; omega) (by show n9 + 585 ≤ n9 + 600; omega) ?_
    exact m_L_law_b1816 E hX hV hl0 hb9 hn9 K23 hK23 v1 v2 v3 v4 Z173 I187 L188 hZ hx k178 k179 k180 h
  · have h := h.2 c191
    refine j_iconst E (v := 0) dL_law_659 (by decide) ?_
    exact h.elim
set_option maxRecDepth 100000 in
def f_L_law_b661 (xs : Nat → Int32) (Ls : Nat) (K23 : Nat → Nat → Nat → Int32 → jZ → jI → jL → Prop) (v1 : Nat) (v2 : Nat) (v3 : Nat) (v4 : Int32) (Z : jZ) (I : jI) (L : jL) : Prop := (vp_in (v4 + (1 : Int32)) Ls ∧ (vp_in (v4 + (2 : Int32)) Ls ∧ (f_X11_vow v1 (xs (v4 + (1 : Int32)).toNatClampNeg) (xs (v4 + (2 : Int32)).toNatClampNeg) Z I L (fun r199 I196 L197 => (vp_in (v4 + (1 : Int32)) Ls ∧ (vp_in (v4 + (2 : Int32)) Ls ∧ (f_X12_vow v2 (xs (v4 + (1 : Int32)).toNatClampNeg) (xs (v4 + (2 : Int32)).toNatClampNeg) Z I196 L197 (fun r207 I204 L205 => ((r199 = r207 → f_L_law_b1816 xs Ls K23 v1 v2 v3 v4 Z I204 L205) ∧ (¬ (r199 = r207) → False))))))))))
set_option maxHeartbeats 4000000 in
set_option maxRecDepth 100000 in
theorem m_L_law_b661 {G : jG} {Z0 : jZ} {xs : Nat → Int32} {Ls b k9 n9 : Nat} (E : jE G cL_law RL (Cond.arrayClass .byte :: jT) 8 (some .boolean) room_1 jRL) (hX : va_X b Ls xs (gS G) (gS G).heap ∧ b < (gS G).heap.size ∧ ¬ gA G b) (hV : jV (gA G) (gS G) (gS G).heap) (hl0 : (gL G).stackTraces = false) (hb9 : k9 + 27 ≤ 600002) (hn9 : n9 + 600 ≤ 7302232) (K23 : Nat → Nat → Nat → Int32 → jZ → jI → jL → Prop) (hK23 : ∀ (v1 : Nat) (v2 : Nat) (v3 : Nat) (v4 : Int32) (Z : jZ) (I : jI) (L : jL), SH Z → jext Z0 Z → jk Z v1 11 → jk Z v2 12 → jk Z v3 15 → K23 v1 v2 v3 v4 Z I L → jJ G 8 23 [(0, .ref b), (1, .ref v1), (2, .ref v2), (3, .ref v3), (4, .int v4)] [] Z I L (k9 + 27) (n9 + 600)) (v1 : Nat) (v2 : Nat) (v3 : Nat) (v4 : Int32) (Z : jZ) (I : jI) (L : jL) (hZ : SH Z) (hx : jext Z0 Z) (kv1 : jk Z v1 11) (kv2 : jk Z v2 12) (kv3 : jk Z v3 15) (h : f_L_law_b661 xs Ls K23 v1 v2 v3 v4 Z I L) : jJ G 8 661 [(0, .ref b), (1, .ref v1), (2, .ref v2), (3, .ref v3), (4, .int v4)] [] Z I L (k9 + 0) (n9 + 0) := by
  unfold f_L_law_b661 at h
  refine j_aload_n E dL_law_661 1 rfl ?_
  refine j_aload_n E dL_law_662 0 rfl ?_
  refine j_iload E dL_law_663 4 rfl ?_
  refine j_iconst E (v := 1) dL_law_665 (by decide) ?_
  refine j_iadd E dL_law_666 ?_
  obtain ⟨o192, h⟩ := h
  refine j_sld E hX.1 hX.2.1 hX.2.2 o192 dL_law_667 ?_
  refine j_aload_n E dL_law_668 0 rfl ?_
  refine j_iload E dL_law_669 4 rfl ?_
  refine j_iconst E (v := 2) dL_law_671 (by decide) ?_
  refine j_iadd E dL_law_672 ?_
  obtain ⟨o193, h⟩ := h
  refine j_sld E hX.1 hX.2.1 hX.2.2 o193 dL_law_673 ?_
  refine j_callV E [.int (xs (v4 + (1 : Int32)).toNatClampNeg), .int (xs (v4 + (2 : Int32)).toNatClampNeg)] [] (c_X11_vow (gL G) (gD G) (gY G) v1 (xs (v4 + (1 : Int32)).toNatClampNeg) (xs (v4 + (2 : Int32)).toNatClampNeg) Z I L _ hZ kv1 h) (gwV W_1259 W_1260 W_1261 W_28 W_1258) rfl ⟨rfl, fy_X11_vow⟩ ⟨by decide, by decide⟩ (c := 11) rfl (by decide) kv1 rfl rfl (Nat.le_of_ble_eq_true rfl) ⟨by show k9 + 0 + 0 ≤ 600002; omega, by show n9 + 0 + 0 ≤ 7302232; omega⟩ dL_law_674 (fun v194 Z195 I196 L197 q198 => ?_)
  obtain ⟨rfl, r199, rfl, h⟩ := q198
  show jJ G 8 677 [(0, .ref b), (1, .ref v1), (2, .ref v2), (3, .ref v3), (4, .int v4)] [.int r199] Z I196 L197 (k9 + 0) (n9 + 0)
  refine j_aload_n E dL_law_677 2 rfl ?_
  refine j_aload_n E dL_law_678 0 rfl ?_
  refine j_iload E dL_law_679 4 rfl ?_
  refine j_iconst E (v := 1) dL_law_681 (by decide) ?_
  refine j_iadd E dL_law_682 ?_
  obtain ⟨o200, h⟩ := h
  refine j_sld E hX.1 hX.2.1 hX.2.2 o200 dL_law_683 ?_
  refine j_aload_n E dL_law_684 0 rfl ?_
  refine j_iload E dL_law_685 4 rfl ?_
  refine j_iconst E (v := 2) dL_law_687 (by decide) ?_
  refine j_iadd E dL_law_688 ?_
  obtain ⟨o201, h⟩ := h
  refine j_sld E hX.1 hX.2.1 hX.2.2 o201 dL_law_689 ?_
  refine j_callV E [.int (xs (v4 + (1 : Int32)).toNatClampNeg), .int (xs (v4 + (2 : Int32)).toNatClampNeg)] [.int r199] (c_X12_vow (gL G) (gD G) (gY G) v2 (xs (v4 + (1 : Int32)).toNatClampNeg) (xs (v4 + (2 : Int32)).toNatClampNeg) Z I196 L197 _ hZ kv2 h) (gwV W_1263 W_1264 W_1265 W_679 W_1262) rfl ⟨rfl, fy_X12_vow⟩ ⟨by decide, by decide⟩ (c := 12) rfl (by decide) kv2 rfl rfl (Nat.le_of_ble_eq_true rfl) ⟨by show k9 + 0 + 0 ≤ 600002; omega, by show n9 + 0 + 0 ≤ 7302232; omega⟩ dL_law_690 (fun v202 Z203 I204 L205 q206 => ?_)
  obtain ⟨rfl, r207, rfl, h⟩ := q206
  show jJ G 8 693 [(0, .ref b), (1, .ref v1), (2, .ref v2), (3, .ref v3), (4, .int v4)] [.int r207, .int r199] Z I204 L205 (k9 + 0) (n9 + 0)
  refine j_icmp_eq E 1816 dL_law_693 (by decide) (fun c208 => ?_) (fun c208 => ?_)
  · have h := h.1 c208
    refine j_sub [0, 1, 2, 3, 4] rfl ?_
    refine j_widen (k9 := k9 + 27) (n9 := n9 + 600) (by show k9 + 0 ≤ k9 + 27; omega) (by show n9 + 0 ≤ n9 + 600; omega) ?_
    exact m_L_law_b1816 E hX hV hl0 hb9 hn9 K23 hK23 v1 v2 v3 v4 Z I204 L205 hZ hx kv1 kv2 kv3 h
  · have h := h.2 c208
    refine j_iconst E (v := 0) dL_law_696 (by decide) ?_
    exact h.elim
set_option maxRecDepth 100000 in
def f_L_law_b763 (xs : Nat → Int32) (Ls : Nat) (K23 : Nat → Nat → Nat → Int32 → jZ → jI → jL → Prop) (v1 : Nat) (v2 : Nat) (v3 : Nat) (v4 : Int32) (Z : jZ) (I : jI) (L : jL) : Prop := f_L_law_b1816 xs Ls K23 v1 v2 v3 v4 Z I L
set_option maxHeartbeats 4000000 in
set_option maxRecDepth 100000 in
theorem m_L_law_b763 {G : jG} {Z0 : jZ} {xs : Nat → Int32} {Ls b k9 n9 : Nat} (E : jE G cL_law RL (Cond.arrayClass .byte :: jT) 8 (some .boolean) room_1 jRL) (hX : va_X b Ls xs (gS G) (gS G).heap ∧ b < (gS G).heap.size ∧ ¬ gA G b) (hV : jV (gA G) (gS G) (gS G).heap) (hl0 : (gL G).stackTraces = false) (hb9 : k9 + 27 ≤ 600002) (hn9 : n9 + 600 ≤ 7302232) (K23 : Nat → Nat → Nat → Int32 → jZ → jI → jL → Prop) (hK23 : ∀ (v1 : Nat) (v2 : Nat) (v3 : Nat) (v4 : Int32) (Z : jZ) (I : jI) (L : jL), SH Z → jext Z0 Z → jk Z v1 11 → jk Z v2 12 → jk Z v3 15 → K23 v1 v2 v3 v4 Z I L → jJ G 8 23 [(0, .ref b), (1, .ref v1), (2, .ref v2), (3, .ref v3), (4, .int v4)] [] Z I L (k9 + 27) (n9 + 600)) (v1 : Nat) (v2 : Nat) (v3 : Nat) (v4 : Int32) (Z : jZ) (I : jI) (L : jL) (hZ : SH Z) (hx : jext Z0 Z) (kv1 : jk Z v1 11) (kv2 : jk Z v2 12) (kv3 : jk Z v3 15) (h : f_L_law_b763 xs Ls K23 v1 v2 v3 v4 Z I L) : jJ G 8 763 [(0, .ref b), (1, .ref v1), (2, .ref v2), (3, .ref v3), (4, .int v4)] [] Z I L (k9 + 27) (n9 + 600) := by
  unfold f_L_law_b763 at h
  refine j_goto E 1816 dL_law_763 (by decide) ?_
  refine j_sub [0, 1, 2, 3, 4] rfl ?_
  refine j_widen (k9 := k9 + 27) (n9 := n9 + 600) (by show k9 + 27 ≤ k9 + 27; omega) (by show n9 + 600 ≤ n9 + 600; omega) ?_
  exact m_L_law_b1816 E hX hV hl0 hb9 hn9 K23 hK23 v1 v2 v3 v4 Z I L hZ hx kv1 kv2 kv3 h
set_option maxRecDepth 100000 in
def f_L_law_b698 (xs : Nat → Int32) (Ls : Nat) (K23 : Nat → Nat → Nat → Int32 → jZ → jI → jL → Prop) (v1 : Nat) (v2 : Nat) (v3 : Nat) (v4 : Int32) (Z : jZ) (I : jI) (L : jL) : Prop := (vp_in (v4 + (1 : Int32)) Ls ∧ (vp_in (v4 + (2 : Int32)) Ls ∧ (f_L_of v1 (xs (v4 + (1 : Int32)).toNatClampNeg) (xs (v4 + (2 : Int32)).toNatClampNeg) v3 Z I L (fun r216 I213 L214 => (vp_in (v4 + (1 : Int32)) Ls ∧ (vp_in (v4 + (2 : Int32)) Ls ∧ (f_X12_of v2 (xs (v4 + (1 : Int32)).toNatClampNeg) (xs (v4 + (2 : Int32)).toNatClampNeg) Z I213 L214 (fun r224 I221 L222 => (f_X12_thrown v2 Z I221 L222 (fun r230 I227 L228 => ((r230 = r216 → ((¬ r216 = 0 → f_L_law_b763 xs Ls K23 v1 v2 v3 v4 Z I227 L228) ∧ (r216 = 0 → (vp_in (0 : Int32) (jlen Z v3) ∧ (((lg_cmp (L228 v3 (0 : Int32).toNatClampNeg) (r224.toInt64)) = 0 → f_L_law_b763 xs Ls K23 v1 v2 v3 v4 Z I227 L228) ∧ (¬ ((lg_cmp (L228 v3 (0 : Int32).toNatClampNeg) (r224.toInt64)) = 0) → False)))))) ∧ (¬ (r230 = r216) → False))))))))))))
set_option maxHeartbeats 4000000 in
set_option maxRecDepth 100000 in
theorem m_L_law_b698 {G : jG} {Z0 : jZ} {xs : Nat → Int32} {Ls b k9 n9 : Nat} (E : jE G cL_law RL (Cond.arrayClass .byte :: jT) 8 (some .boolean) room_1 jRL) (hX : va_X b Ls xs (gS G) (gS G).heap ∧ b < (gS G).heap.size ∧ ¬ gA G b) (hV : jV (gA G) (gS G) (gS G).heap) (hl0 : (gL G).stackTraces = false) (hb9 : k9 + 27 ≤ 600002) (hn9 : n9 + 600 ≤ 7302232) (K23 : Nat → Nat → Nat → Int32 → jZ → jI → jL → Prop) (hK23 : ∀ (v1 : Nat) (v2 : Nat) (v3 : Nat) (v4 : Int32) (Z : jZ) (I : jI) (L : jL), SH Z → jext Z0 Z → jk Z v1 11 → jk Z v2 12 → jk Z v3 15 → K23 v1 v2 v3 v4 Z I L → jJ G 8 23 [(0, .ref b), (1, .ref v1), (2, .ref v2), (3, .ref v3), (4, .int v4)] [] Z I L (k9 + 27) (n9 + 600)) (v1 : Nat) (v2 : Nat) (v3 : Nat) (v4 : Int32) (Z : jZ) (I : jI) (L : jL) (hZ : SH Z) (hx : jext Z0 Z) (kv1 : jk Z v1 11) (kv2 : jk Z v2 12) (kv3 : jk Z v3 15) (h : f_L_law_b698 xs Ls K23 v1 v2 v3 v4 Z I L) : jJ G 8 698 [(0, .ref b), (1, .ref v1), (2, .ref v2), (3, .ref v3), (4, .int v4)] [] Z I L (k9 + 0) (n9 + 0) := by
  unfold f_L_law_b698 at h
  refine j_aload_n E dL_law_698 1 rfl ?_
  refine j_aload_n E dL_law_699 0 rfl ?_
  refine j_iload E dL_law_700 4 rfl ?_
  refine j_iconst E (v := 1) dL_law_702 (by decide) ?_
  refine j_iadd E dL_law_703 ?_
  obtain ⟨o209, h⟩ := h
  refine j_sld E hX.1 hX.2.1 hX.2.2 o209 dL_law_704 ?_
  refine j_aload_n E dL_law_705 0 rfl ?_
  refine j_iload E dL_law_706 4 rfl ?_
  refine j_iconst E (v := 2) dL_law_708 (by decide) ?_
  refine j_iadd E dL_law_709 ?_
  obtain ⟨o210, h⟩ := h
  refine j_sld E hX.1 hX.2.1 hX.2.2 o210 dL_law_710 ?_
  refine j_aload_n E dL_law_711 3 rfl ?_
  refine j_callSH E hV [.ref v1, .int (xs (v4 + (1 : Int32)).toNatClampNeg), .int (xs (v4 + (2 : Int32)).toNatClampNeg), .ref v3] [] (c_L_of (gL G) hl0 (gD G) (gY G) v1 (xs (v4 + (1 : Int32)).toNatClampNeg) (xs (v4 + (2 : Int32)).toNatClampNeg) v3 Z I L _ hZ kv1 kv3 h) (gwS W_1266 W_1267 W_1206 W_1268) rfl fy_L_of ⟨by decide, by decide⟩ rfl rfl (Nat.le_of_ble_eq_true rfl) ⟨by show k9 + 0 + 1 ≤ 600002; omega, by show n9 + 0 + 6 ≤ 7302232; omega⟩ dL_law_712 (fun v211 Z212 I213 L214 q215 => ?_)
  obtain ⟨rfl, r216, rfl, h⟩ := q215
  show jJ G 8 715 [(0, .ref b), (1, .ref v1), (2, .ref v2), (3, .ref v3), (4, .int v4)] [.int r216] Z I213 L214 (k9 + 1) (n9 + 6)
  refine j_istore E 5 [(5, .int r216), (0, .ref b), (1, .ref v1), (2, .ref v2), (3, .ref v3), (4, .int v4)] dL_law_715 (by decide) rfl ?_
  refine j_aload_n E dL_law_717 3 rfl ?_
  refine j_aload_n E dL_law_718 1 rfl ?_
  refine j_iload E dL_law_719 5 rfl ?_
  refine j_iconst E (v := 1) dL_law_721 (by decide) ?_
  refine j_iadd E dL_law_722 ?_
  obtain ⟨o217, h⟩ := h
  refine j_sld E hX.1 hX.2.1 hX.2.2 o217 dL_law_723 ?_
  refine j_aload_n E dL_law_724 1 rfl ?_
  refine j_iload E dL_law_725 5 rfl ?_
  refine j_iconst E (v := 2) dL_law_727 (by decide) ?_
  refine j_iadd E dL_law_728 ?_
  obtain ⟨o218, h⟩ := h
  refine j_sld E hX.1 hX.2.1 hX.2.2 o218 dL_law_729 ?_
  refine j_callV E [.int (xs (v4 + (1 : Int32)).toNatClampNeg), .int (xs (v4 + (2 : Int32)).toNatClampNeg)] [] (c_X12_of (gL G) (gD G) (gY G) v2 (xs (v4 + (1 : Int32)).toNatClampNeg) (xs (v4 + (2 : Int32)).toNatClampNeg) Z I213 L214 _ hZ kv2 h) (gwV W_1270 W_1271 W_1272 W_679 W_1269) rfl ⟨rfl, fy_X12_of⟩ ⟨by decide, by decide⟩ (c := 12) rfl (by decide) kv2 rfl rfl (Nat.le_of_ble_eq_true rfl) ⟨by show k9 + 1 + 0 ≤ 600002; omega, by show n9 + 6 + 0 ≤ 7302232; omega⟩ dL_law_730 (fun v219 Z220 I221 L222 q223 => ?_)
  obtain ⟨rfl, r224, rfl, h⟩ := q223
  show jJ G 8 733 [(5, .int r216), (0, .ref b), (1, .ref v1), (2, .ref v2), (3, .ref v3), (4, .int v4)] [.int r224] Z I221 L222 (k9 + 1) (n9 + 6)
  refine j_istore E 6 [(6, .int r224), (5, .int r216), (0, .ref b), (1, .ref v1), (2, .ref v2), (3, .ref v3), (4, .int v4)] dL_law_733 (by decide) rfl ?_
  refine j_aload_n E dL_law_735 4 rfl ?_
  refine j_callV E [] [] (c_X12_thrown (gL G) (gD G) (gY G) v2 Z I221 L222 _ hZ kv2 h) (gwV W_1215 W_1216 W_1217 W_679 W_1214) rfl ⟨rfl, fy_X12_thrown⟩ ⟨by decide, by decide⟩ (c := 12) rfl (by decide) kv2 rfl rfl (Nat.le_of_ble_eq_true rfl) ⟨by show k9 + 1 + 0 ≤ 600002; omega, by show n9 + 6 + 0 ≤ 7302232; omega⟩ dL_law_736 (fun v225 Z226 I227 L228 q229 => ?_)
  obtain ⟨rfl, r230, rfl, h⟩ := q229
  show jJ G 8 739 [(6, .int r224), (5, .int r216), (0, .ref b), (1, .ref v1), (2, .ref v2), (3, .ref v3), (4, .int v4)] [.int r230] Z I227 L228 (k9 + 1) (n9 + 6)
  refine j_iload E dL_law_739 1 rfl ?_
  refine j_icmp_eq E 746 dL_law_741 (by decide) (fun c231 => ?_) (fun c231 => ?_)
  · have h := h.1 c231
    refine j_iload E dL_law_746 1 rfl ?_
    refine j_if_ne E 763 dL_law_748 (by decide) (fun c232 => ?_) (fun c232 => ?_)
    · have h := h.1 c232
      refine j_sub [2, 3, 4, 5, 6] rfl ?_
      refine j_widen (k9 := k9 + 27) (n9 := n9 + 600) (by show k9 + 1 ≤ k9 + 27; omega) (by show n9 + 6 ≤ n9 + 600; omega) ?_
      exact m_L_law_b763 E hX hV hl0 hb9 hn9 K23 hK23 v1 v2 v3 v4 Z I227 L228 hZ hx kv1 kv2 kv3 h
    · have h := h.2 c232
      refine j_aload_n E dL_law_751 5 rfl ?_
      refine j_iconst E (v := 0) dL_law_752 (by decide) ?_
      obtain ⟨o233, h⟩ := h
      refine j_lald E kv3 o233 dL_law_753 ?_
      refine j_iload E dL_law_754 0 rfl ?_
      refine j_i2l E dL_law_756 ?_
      refine j_lcmp E dL_law_757 ?_
      refine j_if_eq E 763 dL_law_758 (by decide) (fun c234 => ?_) (fun c234 => ?_)
      · have h := h.1 c234
        refine j_sub [2, 3, 4, 5, 6] rfl ?_
        refine j_widen (k9 := k9 + 27) (n9 := n9 + 600) (by show k9 + 1 ≤ k9 + 27; omega) (by show n9 + 6 ≤ n9 + 600; omega) ?_
        exact m_L_law_b763 E hX hV hl0 hb9 hn9 K23 hK23 v1 v2 v3 v4 Z I227 L228 hZ hx kv1 kv2 kv3 h
      · have h := h.2 c234
        refine j_iconst E (v := 0) dL_law_761 (by decide) ?_
        exact h.elim
  · have h := h.2 c231
    refine j_iconst E (v := 0) dL_law_744 (by decide) ?_
    exact h.elim
set_option maxRecDepth 100000 in
def f_L_law_b766 (xs : Nat → Int32) (Ls : Nat) (K23 : Nat → Nat → Nat → Int32 → jZ → jI → jL → Prop) (v1 : Nat) (v2 : Nat) (v3 : Nat) (v4 : Int32) (Z : jZ) (I : jI) (L : jL) : Prop := (vp_in (v4 + (1 : Int32)) Ls ∧ (vp_in (v4 + (2 : Int32)) Ls ∧ (f_X11_costs v1 (xs (v4 + (1 : Int32)).toNatClampNeg) (xs (v4 + (2 : Int32)).toNatClampNeg) Z I L (fun r242 I239 L240 => (vp_in (v4 + (1 : Int32)) Ls ∧ (vp_in (v4 + (2 : Int32)) Ls ∧ (f_X12_costs v2 (xs (v4 + (1 : Int32)).toNatClampNeg) (xs (v4 + (2 : Int32)).toNatClampNeg) Z I239 L240 (fun r250 Z246 I247 L248 => ((r242 = r250 → f_L_law_b1816 xs Ls K23 v1 v2 v3 v4 Z246 I247 L248) ∧ (¬ (r242 = r250) → False))))))))))
set_option maxHeartbeats 4000000 in
set_option maxRecDepth 100000 in
theorem m_L_law_b766 {G : jG} {Z0 : jZ} {xs : Nat → Int32} {Ls b k9 n9 : Nat} (E : jE G cL_law RL (Cond.arrayClass .byte :: jT) 8 (some .boolean) room_1 jRL) (hX : va_X b Ls xs (gS G) (gS G).heap ∧ b < (gS G).heap.size ∧ ¬ gA G b) (hV : jV (gA G) (gS G) (gS G).heap) (hl0 : (gL G).stackTraces = false) (hb9 : k9 + 27 ≤ 600002) (hn9 : n9 + 600 ≤ 7302232) (K23 : Nat → Nat → Nat → Int32 → jZ → jI → jL → Prop) (hK23 : ∀ (v1 : Nat) (v2 : Nat) (v3 : Nat) (v4 : Int32) (Z : jZ) (I : jI) (L : jL), SH Z → jext Z0 Z → jk Z v1 11 → jk Z v2 12 → jk Z v3 15 → K23 v1 v2 v3 v4 Z I L → jJ G 8 23 [(0, .ref b), (1, .ref v1), (2, .ref v2), (3, .ref v3), (4, .int v4)] [] Z I L (k9 + 27) (n9 + 600)) (v1 : Nat) (v2 : Nat) (v3 : Nat) (v4 : Int32) (Z : jZ) (I : jI) (L : jL) (hZ : SH Z) (hx : jext Z0 Z) (kv1 : jk Z v1 11) (kv2 : jk Z v2 12) (kv3 : jk Z v3 15) (h : f_L_law_b766 xs Ls K23 v1 v2 v3 v4 Z I L) : jJ G 8 766 [(0, .ref b), (1, .ref v1), (2, .ref v2), (3, .ref v3), (4, .int v4)] [] Z I L (k9 + 0) (n9 + 0) := by
  unfold f_L_law_b766 at h
  refine j_aload_n E dL_law_766 1 rfl ?_
  refine j_aload_n E dL_law_767 0 rfl ?_
  refine j_iload E dL_law_768 4 rfl ?_
  refine j_iconst E (v := 1) dL_law_770 (by decide) ?_
  refine j_iadd E dL_law_771 ?_
  obtain ⟨o235, h⟩ := h
  refine j_sld E hX.1 hX.2.1 hX.2.2 o235 dL_law_772 ?_
  refine j_aload_n E dL_law_773 0 rfl ?_
  refine j_iload E dL_law_774 4 rfl ?_
  refine j_iconst E (v := 2) dL_law_776 (by decide) ?_
  refine j_iadd E dL_law_777 ?_
  obtain ⟨o236, h⟩ := h
  refine j_sld E hX.1 hX.2.1 hX.2.2 o236 dL_law_778 ?_
  refine j_callV E [.int (xs (v4 + (1 : Int32)).toNatClampNeg), .int (xs (v4 + (2 : Int32)).toNatClampNeg)] [] (c_X11_costs (gL G) (gD G) (gY G) v1 (xs (v4 + (1 : Int32)).toNatClampNeg) (xs (v4 + (2 : Int32)).toNatClampNeg) Z I L _ hZ kv1 h) (gwV W_1274 W_1275 W_1276 W_28 W_1273) rfl ⟨rfl, fy_X11_costs⟩ ⟨by decide, by decide⟩ (c := 11) rfl (by decide) kv1 rfl rfl (Nat.le_of_ble_eq_true rfl) ⟨by show k9 + 0 + 0 ≤ 600002; omega, by show n9 + 0 + 0 ≤ 7302232; omega⟩ dL_law_779 (fun v237 Z238 I239 L240 q241 => ?_)
  obtain ⟨rfl, r242, rfl, h⟩ := q241
  show jJ G 8 782 [(0, .ref b), (1, .ref v1), (2, .ref v2), (3, .ref v3), (4, .int v4)] [.int r242] Z I239 L240 (k9 + 0) (n9 + 0)
  refine j_aload_n E dL_law_782 2 rfl ?_
  refine j_aload_n E dL_law_783 0 rfl ?_
  refine j_iload E dL_law_784 4 rfl ?_
  refine j_iconst E (v := 1) dL_law_786 (by decide) ?_
  refine j_iadd E dL_law_787 ?_
  obtain ⟨o243, h⟩ := h
  refine j_sld E hX.1 hX.2.1 hX.2.2 o243 dL_law_788 ?_
  refine j_aload_n E dL_law_789 0 rfl ?_
  refine j_iload E dL_law_790 4 rfl ?_
  refine j_iconst E (v := 2) dL_law_792 (by decide) ?_
  refine j_iadd E dL_law_793 ?_
  obtain ⟨o244, h⟩ := h
  refine j_sld E hX.1 hX.2.1 hX.2.2 o244 dL_law_794 ?_
  refine j_callV E [.int (xs (v4 + (1 : Int32)).toNatClampNeg), .int (xs (v4 + (2 : Int32)).toNatClampNeg)] [.int r242] (c_X12_costs (gL G) (gD G) (gY G) v2 (xs (v4 + (1 : Int32)).toNatClampNeg) (xs (v4 + (2 : Int32)).toNatClampNeg) Z I239 L240 _ hZ kv2 h) (gwV W_1278 W_1279 W_1280 W_679 W_1277) rfl ⟨rfl, fy_X12_costs⟩ ⟨by decide, by decide⟩ (c := 12) rfl (by decide) kv2 rfl rfl (Nat.le_of_ble_eq_true rfl) ⟨by show k9 + 0 + 0 ≤ 600002; omega, by show n9 + 0 + 0 ≤ 7302232; omega⟩ dL_law_795 (fun v245 Z246 I247 L248 q249 => ?_)
  obtain ⟨yZ246, hZ246, r250, rfl, h⟩ := q249
  have hZ := hZ246
  have hx : jext Z0 Z246 := jext_trans hx yZ246
  have k251 := (yZ246 _ _ kv1).1
  have k252 := (yZ246 _ _ kv2).1
  have k253 := (yZ246 _ _ kv3).1
  show jJ G 8 798 [(0, .ref b), (1, .ref v1), (2, .ref v2), (3, .ref v3), (4, .int v4)] [.int r250, .int r242] Z246 I247 L248 (k9 + 0) (n9 + 0)
  refine j_icmp_eq E 1816 dL_law_798 (by decide) (fun c254 => ?_) (fun c254 => ?_)
  · have h := h.1 c254
    refine j_sub [0, 1, 2, 3, 4] rfl ?_
    refine j_widen (k9 := k9 + 27) (n9 := n9 + 600) (by show k9 + 0 ≤ k9 + 27; omega) (by show n9 + 0 ≤ n9 + 600; omega) ?_
    exact m_L_law_b1816 E hX hV hl0 hb9 hn9 K23 hK23 v1 v2 v3 v4 Z246 I247 L248 hZ hx k251 k252 k253 h
  · have h := h.2 c254
    refine j_iconst E (v := 0) dL_law_801 (by decide) ?_
    exact h.elim
set_option maxRecDepth 100000 in
def f_L_law_b803 (xs : Nat → Int32) (Ls : Nat) (K23 : Nat → Nat → Nat → Int32 → jZ → jI → jL → Prop) (v1 : Nat) (v2 : Nat) (v3 : Nat) (v4 : Int32) (Z : jZ) (I : jI) (L : jL) : Prop := (vp_in (v4 + (1 : Int32)) Ls ∧ (vp_in (v4 + (2 : Int32)) Ls ∧ (f_X11_tread v1 (xs (v4 + (1 : Int32)).toNatClampNeg) (xs (v4 + (2 : Int32)).toNatClampNeg) Z I L (fun r262 I259 L260 => (vp_in (v4 + (1 : Int32)) Ls ∧ (vp_in (v4 + (2 : Int32)) Ls ∧ (f_X12_tread v2 (xs (v4 + (1 : Int32)).toNatClampNeg) (xs (v4 + (2 : Int32)).toNatClampNeg) Z I259 L260 (fun r270 Z266 I267 L268 => ((r262 = r270 → f_L_law_b1816 xs Ls K23 v1 v2 v3 v4 Z266 I267 L268) ∧ (¬ (r262 = r270) → False))))))))))
set_option maxHeartbeats 4000000 in
set_option maxRecDepth 100000 in
theorem m_L_law_b803 {G : jG} {Z0 : jZ} {xs : Nat → Int32} {Ls b k9 n9 : Nat} (E : jE G cL_law RL (Cond.arrayClass .byte :: jT) 8 (some .boolean) room_1 jRL) (hX : va_X b Ls xs (gS G) (gS G).heap ∧ b < (gS G).heap.size ∧ ¬ gA G b) (hV : jV (gA G) (gS G) (gS G).heap) (hl0 : (gL G).stackTraces = false) (hb9 : k9 + 27 ≤ 600002) (hn9 : n9 + 600 ≤ 7302232) (K23 : Nat → Nat → Nat → Int32 → jZ → jI → jL → Prop) (hK23 : ∀ (v1 : Nat) (v2 : Nat) (v3 : Nat) (v4 : Int32) (Z : jZ) (I : jI) (L : jL), SH Z → jext Z0 Z → jk Z v1 11 → jk Z v2 12 → jk Z v3 15 → K23 v1 v2 v3 v4 Z I L → jJ G 8 23 [(0, .ref b), (1, .ref v1), (2, .ref v2), (3, .ref v3), (4, .int v4)] [] Z I L (k9 + 27) (n9 + 600)) (v1 : Nat) (v2 : Nat) (v3 : Nat) (v4 : Int32) (Z : jZ) (I : jI) (L : jL) (hZ : SH Z) (hx : jext Z0 Z) (kv1 : jk Z v1 11) (kv2 : jk Z v2 12) (kv3 : jk Z v3 15) (h : f_L_law_b803 xs Ls K23 v1 v2 v3 v4 Z I L) : jJ G 8 803 [(0, .ref b), (1, .ref v1), (2, .ref v2), (3, .ref v3), (4, .int v4)] [] Z I L (k9 + 0) (n9 + 0) := by
  unfold f_L_law_b803 at h
  refine j_aload_n E dL_law_803 1 rfl ?_
  refine j_aload_n E dL_law_804 0 rfl ?_
  refine j_iload E dL_law_805 4 rfl ?_
  refine j_iconst E (v := 1) dL_law_807 (by decide) ?_
  refine j_iadd E dL_law_808 ?_
  obtain ⟨o255, h⟩ := h
  refine j_sld E hX.1 hX.2.1 hX.2.2 o255 dL_law_809 ?_
  refine j_aload_n E dL_law_810 0 rfl ?_
  refine j_iload E dL_law_811 4 rfl ?_
  refine j_iconst E (v := 2) dL_law_813 (by decide) ?_
  refine j_iadd E dL_law_814 ?_
  obtain ⟨o256, h⟩ := h
  refine j_sld E hX.1 hX.2.1 hX.2.2 o256 dL_law_815 ?_
  refine j_callV E [.int (xs (v4 + (1 : Int32)).toNatClampNeg), .int (xs (v4 + (2 : Int32)).toNatClampNeg)] [] (c_X11_tread (gL G) (gD G) (gY G) v1 (xs (v4 + (1 : Int32)).toNatClampNeg) (xs (v4 + (2 : Int32)).toNatClampNeg) Z I L _ hZ kv1 h) (gwV W_1282 W_1283 W_1284 W_28 W_1281) rfl ⟨rfl, fy_X11_tread⟩ ⟨by decide, by decide⟩ (c := 11) rfl (by decide) kv1 rfl rfl (Nat.le_of_ble_eq_true rfl) ⟨by show k9 + 0 + 0 ≤ 600002; omega, by show n9 + 0 + 0 ≤ 7302232; omega⟩ dL_law_816 (fun v257 Z258 I259 L260 q261 => ?_)
  obtain ⟨rfl, r262, rfl, h⟩ := q261
  show jJ G 8 819 [(0, .ref b), (1, .ref v1), (2, .ref v2), (3, .ref v3), (4, .int v4)] [.int r262] Z I259 L260 (k9 + 0) (n9 + 0)
  refine j_aload_n E dL_law_819 2 rfl ?_
  refine j_aload_n E dL_law_820 0 rfl ?_
  refine j_iload E dL_law_821 4 rfl ?_
  refine j_iconst E (v := 1) dL_law_823 (by decide) ?_
  refine j_iadd E dL_law_824 ?_
  obtain ⟨o263, h⟩ := h
  refine j_sld E hX.1 hX.2.1 hX.2.2 o263 dL_law_825 ?_
  refine j_aload_n E dL_law_826 0 rfl ?_
  refine j_iload E dL_law_827 4 rfl ?_
  refine j_iconst E (v := 2) dL_law_829 (by decide) ?_
  refine j_iadd E dL_law_830 ?_
  obtain ⟨o264, h⟩ := h
  refine j_sld E hX.1 hX.2.1 hX.2.2 o264 dL_law_831 ?_
  refine j_callV E [.int (xs (v4 + (1 : Int32)).toNatClampNeg), .int (xs (v4 + (2 : Int32)).toNatClampNeg)] [.int r262] (c_X12_tread (gL G) (gD G) (gY G) v2 (xs (v4 + (1 : Int32)).toNatClampNeg) (xs (v4 + (2 : Int32)).toNatClampNeg) Z I259 L260 _ hZ kv2 h) (gwV W_1286 W_1287 W_1288 W_679 W_1285) rfl ⟨rfl, fy_X12_tread⟩ ⟨by decide, by decide⟩ (c := 12) rfl (by decide) kv2 rfl rfl (Nat.le_of_ble_eq_true rfl) ⟨by show k9 + 0 + 0 ≤ 600002; omega, by show n9 + 0 + 0 ≤ 7302232; omega⟩ dL_law_832 (fun v265 Z266 I267 L268 q269 => ?_)
  obtain ⟨yZ266, hZ266, r270, rfl, h⟩ := q269
  have hZ := hZ266
  have hx : jext Z0 Z266 := jext_trans hx yZ266
  have k271 := (yZ266 _ _ kv1).1
  have k272 := (yZ266 _ _ kv2).1
  have k273 := (yZ266 _ _ kv3).1
  show jJ G 8 835 [(0, .ref b), (1, .ref v1), (2, .ref v2), (3, .ref v3), (4, .int v4)] [.int r270, .int r262] Z266 I267 L268 (k9 + 0) (n9 + 0)
  refine j_icmp_eq E 1816 dL_law_835 (by decide) (fun c274 => ?_) (fun c274 => ?_)
  · have h := h.1 c274
    refine j_sub [0, 1, 2, 3, 4] rfl ?_
    refine j_widen (k9 := k9 + 27) (n9 := n9 + 600) (by show k9 + 0 ≤ k9 + 27; omega) (by show n9 + 0 ≤ n9 + 600; omega) ?_
    exact m_L_law_b1816 E hX hV hl0 hb9 hn9 K23 hK23 v1 v2 v3 v4 Z266 I267 L268 hZ hx k271 k272 k273 h
  · have h := h.2 c274
    refine j_iconst E (v := 0) dL_law_838 (by decide) ?_
    exact h.elim
set_option maxRecDepth 100000 in
def f_L_law_b840 (xs : Nat → Int32) (Ls : Nat) (K23 : Nat → Nat → Nat → Int32 → jZ → jI → jL → Prop) (v1 : Nat) (v2 : Nat) (v3 : Nat) (v4 : Int32) (Z : jZ) (I : jI) (L : jL) : Prop := (vp_in (v4 + (1 : Int32)) Ls ∧ (vp_in (v4 + (2 : Int32)) Ls ∧ (f_X11_rests v1 (xs (v4 + (1 : Int32)).toNatClampNeg) (xs (v4 + (2 : Int32)).toNatClampNeg) Z I L (fun r282 I279 L280 => (vp_in (v4 + (1 : Int32)) Ls ∧ (vp_in (v4 + (2 : Int32)) Ls ∧ (f_X12_rests v2 (xs (v4 + (1 : Int32)).toNatClampNeg) (xs (v4 + (2 : Int32)).toNatClampNeg) Z I279 L280 (fun r290 Z286 I287 L288 => ((r282 = r290 → f_L_law_b1816 xs Ls K23 v1 v2 v3 v4 Z286 I287 L288) ∧ (¬ (r282 = r290) → False))))))))))
set_option maxHeartbeats 4000000 in
set_option maxRecDepth 100000 in
theorem m_L_law_b840 {G : jG} {Z0 : jZ} {xs : Nat → Int32} {Ls b k9 n9 : Nat} (E : jE G cL_law RL (Cond.arrayClass .byte :: jT) 8 (some .boolean) room_1 jRL) (hX : va_X b Ls xs (gS G) (gS G).heap ∧ b < (gS G).heap.size ∧ ¬ gA G b) (hV : jV (gA G) (gS G) (gS G).heap) (hl0 : (gL G).stackTraces = false) (hb9 : k9 + 27 ≤ 600002) (hn9 : n9 + 600 ≤ 7302232) (K23 : Nat → Nat → Nat → Int32 → jZ → jI → jL → Prop) (hK23 : ∀ (v1 : Nat) (v2 : Nat) (v3 : Nat) (v4 : Int32) (Z : jZ) (I : jI) (L : jL), SH Z → jext Z0 Z → jk Z v1 11 → jk Z v2 12 → jk Z v3 15 → K23 v1 v2 v3 v4 Z I L → jJ G 8 23 [(0, .ref b), (1, .ref v1), (2, .ref v2), (3, .ref v3), (4, .int v4)] [] Z I L (k9 + 27) (n9 + 600)) (v1 : Nat) (v2 : Nat) (v3 : Nat) (v4 : Int32) (Z : jZ) (I : jI) (L : jL) (hZ : SH Z) (hx : jext Z0 Z) (kv1 : jk Z v1 11) (kv2 : jk Z v2 12) (kv3 : jk Z v3 15) (h : f_L_law_b840 xs Ls K23 v1 v2 v3 v4 Z I L) : jJ G 8 840 [(0, .ref b), (1, .ref v1), (2, .ref v2), (3, .ref v3), (4, .int v4)] [] Z I L (k9 + 0) (n9 + 0) := by
  unfold f_L_law_b840 at h
  refine j_aload_n E dL_law_840 1 rfl ?_
  refine j_aload_n E dL_law_841 0 rfl ?_
  refine j_iload E dL_law_842 4 rfl ?_
  refine j_iconst E (v := 1) dL_law_844 (by decide) ?_
  refine j_iadd E dL_law_845 ?_
  obtain ⟨o275, h⟩ := h
  refine j_sld E hX.1 hX.2.1 hX.2.2 o275 dL_law_846 ?_
  refine j_aload_n E dL_law_847 0 rfl ?_
  refine j_iload E dL_law_848 4 rfl ?_
  refine j_iconst E (v := 2) dL_law_850 (by decide) ?_
  refine j_iadd E dL_law_851 ?_
  obtain ⟨o276, h⟩ := h
  refine j_sld E hX.1 hX.2.1 hX.2.2 o276 dL_law_852 ?_
  refine j_callV E [.int (xs (v4 + (1 : Int32)).toNatClampNeg), .int (xs (v4 + (2 : Int32)).toNatClampNeg)] [] (c_X11_rests (gL G) (gD G) (gY G) v1 (xs (v4 + (1 : Int32)).toNatClampNeg) (xs (v4 + (2 : Int32)).toNatClampNeg) Z I L _ hZ kv1 h) (gwV W_1290 W_1291 W_1292 W_28 W_1289) rfl ⟨rfl, fy_X11_rests⟩ ⟨by decide, by decide⟩ (c := 11) rfl (by decide) kv1 rfl rfl (Nat.le_of_ble_eq_true rfl) ⟨by show k9 + 0 + 0 ≤ 600002; omega, by show n9 + 0 + 0 ≤ 7302232; omega⟩ dL_law_853 (fun v277 Z278 I279 L280 q281 => ?_)
  obtain ⟨rfl, r282, rfl, h⟩ := q281
  show jJ G 8 856 [(0, .ref b), (1, .ref v1), (2, .ref v2), (3, .ref v3), (4, .int v4)] [.int r282] Z I279 L280 (k9 + 0) (n9 + 0)
  refine j_aload_n E dL_law_856 2 rfl ?_
  refine j_aload_n E dL_law_857 0 rfl ?_
  refine j_iload E dL_law_858 4 rfl ?_
  refine j_iconst E (v := 1) dL_law_860 (by decide) ?_
  refine j_iadd E dL_law_861 ?_
  obtain ⟨o283, h⟩ := h
  refine j_sld E hX.1 hX.2.1 hX.2.2 o283 dL_law_862 ?_
  refine j_aload_n E dL_law_863 0 rfl ?_
  refine j_iload E dL_law_864 4 rfl ?_
  refine j_iconst E (v := 2) dL_law_866 (by decide) ?_
  refine j_iadd E dL_law_867 ?_
  obtain ⟨o284, h⟩ := h
  refine j_sld E hX.1 hX.2.1 hX.2.2 o284 dL_law_868 ?_
  refine j_callV E [.int (xs (v4 + (1 : Int32)).toNatClampNeg), .int (xs (v4 + (2 : Int32)).toNatClampNeg)] [.int r282] (c_X12_rests (gL G) (gD G) (gY G) v2 (xs (v4 + (1 : Int32)).toNatClampNeg) (xs (v4 + (2 : Int32)).toNatClampNeg) Z I279 L280 _ hZ kv2 h) (gwV W_1294 W_1295 W_1296 W_679 W_1293) rfl ⟨rfl, fy_X12_rests⟩ ⟨by decide, by decide⟩ (c := 12) rfl (by decide) kv2 rfl rfl (Nat.le_of_ble_eq_true rfl) ⟨by show k9 + 0 + 0 ≤ 600002; omega, by show n9 + 0 + 0 ≤ 7302232; omega⟩ dL_law_869 (fun v285 Z286 I287 L288 q289 => ?_)
  obtain ⟨yZ286, hZ286, r290, rfl, h⟩ := q289
  have hZ := hZ286
  have hx : jext Z0 Z286 := jext_trans hx yZ286
  have k291 := (yZ286 _ _ kv1).1
  have k292 := (yZ286 _ _ kv2).1
  have k293 := (yZ286 _ _ kv3).1
  show jJ G 8 872 [(0, .ref b), (1, .ref v1), (2, .ref v2), (3, .ref v3), (4, .int v4)] [.int r290, .int r282] Z286 I287 L288 (k9 + 0) (n9 + 0)
  refine j_icmp_eq E 1816 dL_law_872 (by decide) (fun c294 => ?_) (fun c294 => ?_)
  · have h := h.1 c294
    refine j_sub [0, 1, 2, 3, 4] rfl ?_
    refine j_widen (k9 := k9 + 27) (n9 := n9 + 600) (by show k9 + 0 ≤ k9 + 27; omega) (by show n9 + 0 ≤ n9 + 600; omega) ?_
    exact m_L_law_b1816 E hX hV hl0 hb9 hn9 K23 hK23 v1 v2 v3 v4 Z286 I287 L288 hZ hx k291 k292 k293 h
  · have h := h.2 c294
    refine j_iconst E (v := 0) dL_law_875 (by decide) ?_
    exact h.elim
set_option maxRecDepth 100000 in
def f_L_law_b877 (xs : Nat → Int32) (Ls : Nat) (K23 : Nat → Nat → Nat → Int32 → jZ → jI → jL → Prop) (v1 : Nat) (v2 : Nat) (v3 : Nat) (v4 : Int32) (Z : jZ) (I : jI) (L : jL) : Prop := (vp_in (v4 + (1 : Int32)) Ls ∧ (f_X11_returns v1 (xs (v4 + (1 : Int32)).toNatClampNeg) Z I L (fun r301 I298 L299 => (vp_in (v4 + (1 : Int32)) Ls ∧ (f_X12_returns v2 (xs (v4 + (1 : Int32)).toNatClampNeg) Z I298 L299 (fun r308 I305 L306 => ((r301 = r308 → f_L_law_b1816 xs Ls K23 v1 v2 v3 v4 Z I305 L306) ∧ (¬ (r301 = r308) → False))))))))
set_option maxHeartbeats 4000000 in
set_option maxRecDepth 100000 in
theorem m_L_law_b877 {G : jG} {Z0 : jZ} {xs : Nat → Int32} {Ls b k9 n9 : Nat} (E : jE G cL_law RL (Cond.arrayClass .byte :: jT) 8 (some .boolean) room_1 jRL) (hX : va_X b Ls xs (gS G) (gS G).heap ∧ b < (gS G).heap.size ∧ ¬ gA G b) (hV : jV (gA G) (gS G) (gS G).heap) (hl0 : (gL G).stackTraces = false) (hb9 : k9 + 27 ≤ 600002) (hn9 : n9 + 600 ≤ 7302232) (K23 : Nat → Nat → Nat → Int32 → jZ → jI → jL → Prop) (hK23 : ∀ (v1 : Nat) (v2 : Nat) (v3 : Nat) (v4 : Int32) (Z : jZ) (I : jI) (L : jL), SH Z → jext Z0 Z → jk Z v1 11 → jk Z v2 12 → jk Z v3 15 → K23 v1 v2 v3 v4 Z I L → jJ G 8 23 [(0, .ref b), (1, .ref v1), (2, .ref v2), (3, .ref v3), (4, .int v4)] [] Z I L (k9 + 27) (n9 + 600)) (v1 : Nat) (v2 : Nat) (v3 : Nat) (v4 : Int32) (Z : jZ) (I : jI) (L : jL) (hZ : SH Z) (hx : jext Z0 Z) (kv1 : jk Z v1 11) (kv2 : jk Z v2 12) (kv3 : jk Z v3 15) (h : f_L_law_b877 xs Ls K23 v1 v2 v3 v4 Z I L) : jJ G 8 877 [(0, .ref b), (1, .ref v1), (2, .ref v2), (3, .ref v3), (4, .int v4)] [] Z I L (k9 + 0) (n9 + 0) := by
  unfold f_L_law_b877 at h
  refine j_aload_n E dL_law_877 1 rfl ?_
  refine j_aload_n E dL_law_878 0 rfl ?_
  refine j_iload E dL_law_879 4 rfl ?_
  refine j_iconst E (v := 1) dL_law_881 (by decide) ?_
  refine j_iadd E dL_law_882 ?_
  obtain ⟨o295, h⟩ := h
  refine j_sld E hX.1 hX.2.1 hX.2.2 o295 dL_law_883 ?_
  refine j_callV E [.int (xs (v4 + (1 : Int32)).toNatClampNeg)] [] (c_X11_returns (gL G) (gD G) (gY G) v1 (xs (v4 + (1 : Int32)).toNatClampNeg) Z I L _ hZ kv1 h) (gwV W_1298 W_1299 W_1300 W_28 W_1297) rfl ⟨rfl, fy_X11_returns⟩ ⟨by decide, by decide⟩ (c := 11) rfl (by decide) kv1 rfl rfl (Nat.le_of_ble_eq_true rfl) ⟨by show k9 + 0 + 0 ≤ 600002; omega, by show n9 + 0 + 0 ≤ 7302232; omega⟩ dL_law_884 (fun v296 Z297 I298 L299 q300 => ?_)
  obtain ⟨rfl, r301, rfl, h⟩ := q300
  show jJ G 8 887 [(0, .ref b), (1, .ref v1), (2, .ref v2), (3, .ref v3), (4, .int v4)] [.int r301] Z I298 L299 (k9 + 0) (n9 + 0)
  refine j_aload_n E dL_law_887 2 rfl ?_
  refine j_aload_n E dL_law_888 0 rfl ?_
  refine j_iload E dL_law_889 4 rfl ?_
  refine j_iconst E (v := 1) dL_law_891 (by decide) ?_
  refine j_iadd E dL_law_892 ?_
  obtain ⟨o302, h⟩ := h
  refine j_sld E hX.1 hX.2.1 hX.2.2 o302 dL_law_893 ?_
  refine j_callV E [.int (xs (v4 + (1 : Int32)).toNatClampNeg)] [.int r301] (c_X12_returns (gL G) (gD G) (gY G) v2 (xs (v4 + (1 : Int32)).toNatClampNeg) Z I298 L299 _ hZ kv2 h) (gwV W_1302 W_1303 W_1304 W_679 W_1301) rfl ⟨rfl, fy_X12_returns⟩ ⟨by decide, by decide⟩ (c := 12) rfl (by decide) kv2 rfl rfl (Nat.le_of_ble_eq_true rfl) ⟨by show k9 + 0 + 0 ≤ 600002; omega, by show n9 + 0 + 0 ≤ 7302232; omega⟩ dL_law_894 (fun v303 Z304 I305 L306 q307 => ?_)
  obtain ⟨rfl, r308, rfl, h⟩ := q307
  show jJ G 8 897 [(0, .ref b), (1, .ref v1), (2, .ref v2), (3, .ref v3), (4, .int v4)] [.int r308, .int r301] Z I305 L306 (k9 + 0) (n9 + 0)
  refine j_icmp_eq E 1816 dL_law_897 (by decide) (fun c309 => ?_) (fun c309 => ?_)
  · have h := h.1 c309
    refine j_sub [0, 1, 2, 3, 4] rfl ?_
    refine j_widen (k9 := k9 + 27) (n9 := n9 + 600) (by show k9 + 0 ≤ k9 + 27; omega) (by show n9 + 0 ≤ n9 + 600; omega) ?_
    exact m_L_law_b1816 E hX hV hl0 hb9 hn9 K23 hK23 v1 v2 v3 v4 Z I305 L306 hZ hx kv1 kv2 kv3 h
  · have h := h.2 c309
    refine j_iconst E (v := 0) dL_law_900 (by decide) ?_
    exact h.elim
set_option maxRecDepth 100000 in
def f_L_law_b902 (xs : Nat → Int32) (Ls : Nat) (K23 : Nat → Nat → Nat → Int32 → jZ → jI → jL → Prop) (v1 : Nat) (v2 : Nat) (v3 : Nat) (v4 : Int32) (Z : jZ) (I : jI) (L : jL) : Prop := (vp_in (v4 + (1 : Int32)) Ls ∧ (f_X11_earned v1 (xs (v4 + (1 : Int32)).toNatClampNeg) Z I L (fun r316 I313 L314 => (vp_in (v4 + (1 : Int32)) Ls ∧ (f_X12_earned v2 (xs (v4 + (1 : Int32)).toNatClampNeg) Z I313 L314 (fun r323 I320 L321 => ((r316 = r323 → f_L_law_b1816 xs Ls K23 v1 v2 v3 v4 Z I320 L321) ∧ (¬ (r316 = r323) → False))))))))
set_option maxHeartbeats 4000000 in
set_option maxRecDepth 100000 in
theorem m_L_law_b902 {G : jG} {Z0 : jZ} {xs : Nat → Int32} {Ls b k9 n9 : Nat} (E : jE G cL_law RL (Cond.arrayClass .byte :: jT) 8 (some .boolean) room_1 jRL) (hX : va_X b Ls xs (gS G) (gS G).heap ∧ b < (gS G).heap.size ∧ ¬ gA G b) (hV : jV (gA G) (gS G) (gS G).heap) (hl0 : (gL G).stackTraces = false) (hb9 : k9 + 27 ≤ 600002) (hn9 : n9 + 600 ≤ 7302232) (K23 : Nat → Nat → Nat → Int32 → jZ → jI → jL → Prop) (hK23 : ∀ (v1 : Nat) (v2 : Nat) (v3 : Nat) (v4 : Int32) (Z : jZ) (I : jI) (L : jL), SH Z → jext Z0 Z → jk Z v1 11 → jk Z v2 12 → jk Z v3 15 → K23 v1 v2 v3 v4 Z I L → jJ G 8 23 [(0, .ref b), (1, .ref v1), (2, .ref v2), (3, .ref v3), (4, .int v4)] [] Z I L (k9 + 27) (n9 + 600)) (v1 : Nat) (v2 : Nat) (v3 : Nat) (v4 : Int32) (Z : jZ) (I : jI) (L : jL) (hZ : SH Z) (hx : jext Z0 Z) (kv1 : jk Z v1 11) (kv2 : jk Z v2 12) (kv3 : jk Z v3 15) (h : f_L_law_b902 xs Ls K23 v1 v2 v3 v4 Z I L) : jJ G 8 902 [(0, .ref b), (1, .ref v1), (2, .ref v2), (3, .ref v3), (4, .int v4)] [] Z I L (k9 + 0) (n9 + 0) := by
  unfold f_L_law_b902 at h
  refine j_aload_n E dL_law_902 1 rfl ?_
  refine j_aload_n E dL_law_903 0 rfl ?_
  refine j_iload E dL_law_904 4 rfl ?_
  refine j_iconst E (v := 1) dL_law_906 (by decide) ?_
  refine j_iadd E dL_law_907 ?_
  obtain ⟨o310, h⟩ := h
  refine j_sld E hX.1 hX.2.1 hX.2.2 o310 dL_law_908 ?_
  refine j_callV E [.int (xs (v4 + (1 : Int32)).toNatClampNeg)] [] (c_X11_earned (gL G) (gD G) (gY G) v1 (xs (v4 + (1 : Int32)).toNatClampNeg) Z I L _ hZ kv1 h) (gwV W_1306 W_1307 W_1308 W_28 W_1305) rfl ⟨rfl, fy_X11_earned⟩ ⟨by decide, by decide⟩ (c := 11) rfl (by decide) kv1 rfl rfl (Nat.le_of_ble_eq_true rfl) ⟨by show k9 + 0 + 0 ≤ 600002; omega, by show n9 + 0 + 0 ≤ 7302232; omega⟩ dL_law_909 (fun v311 Z312 I313 L314 q315 => ?_)
  obtain ⟨rfl, r316, rfl, h⟩ := q315
  show jJ G 8 912 [(0, .ref b), (1, .ref v1), (2, .ref v2), (3, .ref v3), (4, .int v4)] [.int r316] Z I313 L314 (k9 + 0) (n9 + 0)
  refine j_aload_n E dL_law_912 2 rfl ?_
  refine j_aload_n E dL_law_913 0 rfl ?_
  refine j_iload E dL_law_914 4 rfl ?_
  refine j_iconst E (v := 1) dL_law_916 (by decide) ?_
  refine j_iadd E dL_law_917 ?_
  obtain ⟨o317, h⟩ := h
  refine j_sld E hX.1 hX.2.1 hX.2.2 o317 dL_law_918 ?_
  refine j_callV E [.int (xs (v4 + (1 : Int32)).toNatClampNeg)] [.int r316] (c_X12_earned (gL G) (gD G) (gY G) v2 (xs (v4 + (1 : Int32)).toNatClampNeg) Z I313 L314 _ hZ kv2 h) (gwV W_1310 W_1311 W_1312 W_679 W_1309) rfl ⟨rfl, fy_X12_earned⟩ ⟨by decide, by decide⟩ (c := 12) rfl (by decide) kv2 rfl rfl (Nat.le_of_ble_eq_true rfl) ⟨by show k9 + 0 + 0 ≤ 600002; omega, by show n9 + 0 + 0 ≤ 7302232; omega⟩ dL_law_919 (fun v318 Z319 I320 L321 q322 => ?_)
  obtain ⟨rfl, r323, rfl, h⟩ := q322
  show jJ G 8 922 [(0, .ref b), (1, .ref v1), (2, .ref v2), (3, .ref v3), (4, .int v4)] [.int r323, .int r316] Z I320 L321 (k9 + 0) (n9 + 0)
  refine j_icmp_eq E 1816 dL_law_922 (by decide) (fun c324 => ?_) (fun c324 => ?_)
  · have h := h.1 c324
    refine j_sub [0, 1, 2, 3, 4] rfl ?_
    refine j_widen (k9 := k9 + 27) (n9 := n9 + 600) (by show k9 + 0 ≤ k9 + 27; omega) (by show n9 + 0 ≤ n9 + 600; omega) ?_
    exact m_L_law_b1816 E hX hV hl0 hb9 hn9 K23 hK23 v1 v2 v3 v4 Z I320 L321 hZ hx kv1 kv2 kv3 h
  · have h := h.2 c324
    refine j_iconst E (v := 0) dL_law_925 (by decide) ?_
    exact h.elim
set_option maxRecDepth 100000 in
def f_L_law_b927 (xs : Nat → Int32) (Ls : Nat) (K23 : Nat → Nat → Nat → Int32 → jZ → jI → jL → Prop) (v1 : Nat) (v2 : Nat) (v3 : Nat) (v4 : Int32) (Z : jZ) (I : jI) (L : jL) : Prop := (vp_in (v4 + (1 : Int32)) Ls ∧ (f_X11_climb v1 (xs (v4 + (1 : Int32)).toNatClampNeg) Z I L (fun r331 Z327 I328 L329 => (vp_in (v4 + (1 : Int32)) Ls ∧ (f_X12_climb v2 (xs (v4 + (1 : Int32)).toNatClampNeg) Z327 I328 L329 (fun r341 Z337 I338 L339 => ((r331 = r341 → f_L_law_b1816 xs Ls K23 v1 v2 v3 v4 Z337 I338 L339) ∧ (¬ (r331 = r341) → False))))))))
set_option maxHeartbeats 4000000 in
set_option maxRecDepth 100000 in
theorem m_L_law_b927 {G : jG} {Z0 : jZ} {xs : Nat → Int32} {Ls b k9 n9 : Nat} (E : jE G cL_law RL (Cond.arrayClass .byte :: jT) 8 (some .boolean) room_1 jRL) (hX : va_X b Ls xs (gS G) (gS G).heap ∧ b < (gS G).heap.size ∧ ¬ gA G b) (hV : jV (gA G) (gS G) (gS G).heap) (hl0 : (gL G).stackTraces = false) (hb9 : k9 + 27 ≤ 600002) (hn9 : n9 + 600 ≤ 7302232) (K23 : Nat → Nat → Nat → Int32 → jZ → jI → jL → Prop) (hK23 : ∀ (v1 : Nat) (v2 : Nat) (v3 : Nat) (v4 : Int32) (Z : jZ) (I : jI) (L : jL), SH Z → jext Z0 Z → jk Z v1 11 → jk Z v2 12 → jk Z v3 15 → K23 v1 v2 v3 v4 Z I L → jJ G 8 23 [(0, .ref b), (1, .ref v1), (2, .ref v2), (3, .ref v3), (4, .int v4)] [] Z I L (k9 + 27) (n9 + 600)) (v1 : Nat) (v2 : Nat) (v3 : Nat) (v4 : Int32) (Z : jZ) (I : jI) (L : jL) (hZ : SH Z) (hx : jext Z0 Z) (kv1 : jk Z v1 11) (kv2 : jk Z v2 12) (kv3 : jk Z v3 15) (h : f_L_law_b927 xs Ls K23 v1 v2 v3 v4 Z I L) : jJ G 8 927 [(0, .ref b), (1, .ref v1), (2, .ref v2), (3, .ref v3), (4, .int v4)] [] Z I L (k9 + 0) (n9 + 0) := by
  unfold f_L_law_b927 at h
  refine j_aload_n E dL_law_927 1 rfl ?_
  refine j_aload_n E dL_law_928 0 rfl ?_
  refine j_iload E dL_law_929 4 rfl ?_
  refine j_iconst E (v := 1) dL_law_931 (by decide) ?_
  refine j_iadd E dL_law_932 ?_
  obtain ⟨o325, h⟩ := h
  refine j_sld E hX.1 hX.2.1 hX.2.2 o325 dL_law_933 ?_
  refine j_callV E [.int (xs (v4 + (1 : Int32)).toNatClampNeg)] [] (c_X11_climb (gL G) (gD G) (gY G) v1 (xs (v4 + (1 : Int32)).toNatClampNeg) Z I L _ hZ kv1 h) (gwV W_1314 W_1315 W_1316 W_28 W_1313) rfl ⟨rfl, fy_X11_climb⟩ ⟨by decide, by decide⟩ (c := 11) rfl (by decide) kv1 rfl rfl (Nat.le_of_ble_eq_true rfl) ⟨by show k9 + 0 + 0 ≤ 600002; omega, by show n9 + 0 + 0 ≤ 7302232; omega⟩ dL_law_934 (fun v326 Z327 I328 L329 q330 => ?_)
  obtain ⟨yZ327, hZ327, r331, rfl, h⟩ := q330
  have hZ := hZ327
  have hx : jext Z0 Z327 := jext_trans hx yZ327
  have k332 := (yZ327 _ _ kv1).1
  have k333 := (yZ327 _ _ kv2).1
  have k334 := (yZ327 _ _ kv3).1
  show jJ G 8 937 [(0, .ref b), (1, .ref v1), (2, .ref v2), (3, .ref v3), (4, .int v4)] [.int r331] Z327 I328 L329 (k9 + 0) (n9 + 0)
  refine j_aload_n E dL_law_937 2 rfl ?_
  refine j_aload_n E dL_law_938 0 rfl ?_
  refine j_iload E dL_law_939 4 rfl ?_
  refine j_iconst E (v := 1) dL_law_941 (by decide) ?_
  refine j_iadd E dL_law_942 ?_
  obtain ⟨o335, h⟩ := h
  refine j_sld E hX.1 hX.2.1 hX.2.2 o335 dL_law_943 ?_
  refine j_callV E [.int (xs (v4 + (1 : Int32)).toNatClampNeg)] [.int r331] (c_X12_climb (gL G) (gD G) (gY G) v2 (xs (v4 + (1 : Int32)).toNatClampNeg) Z327 I328 L329 _ hZ k333 h) (gwV W_1318 W_1319 W_1320 W_679 W_1317) rfl ⟨rfl, fy_X12_climb⟩ ⟨by decide, by decide⟩ (c := 12) rfl (by decide) k333 rfl rfl (Nat.le_of_ble_eq_true rfl) ⟨by show k9 + 0 + 0 ≤ 600002; omega, by show n9 + 0 + 0 ≤ 7302232; omega⟩ dL_law_944 (fun v336 Z337 I338 L339 q340 => ?_)
  obtain ⟨yZ337, hZ337, r341, rfl, h⟩ := q340
  have hZ := hZ337
  have hx : jext Z0 Z337 := jext_trans hx yZ337
  have k342 := (yZ337 _ _ k332).1
  have k343 := (yZ337 _ _ k333).1
  have k344 := (yZ337 _ _ k334).1
  show jJ G 8 947 [(0, .ref b), (1, .ref v1), (2, .ref v2), (3, .ref v3), (4, .int v4)] [.int r341, .int r331] Z337 I338 L339 (k9 + 0) (n9 + 0)
  refine j_icmp_eq E 1816 dL_law_947 (by decide) (fun c345 => ?_) (fun c345 => ?_)
  · have h := h.1 c345
    refine j_sub [0, 1, 2, 3, 4] rfl ?_
    refine j_widen (k9 := k9 + 27) (n9 := n9 + 600) (by show k9 + 0 ≤ k9 + 27; omega) (by show n9 + 0 ≤ n9 + 600; omega) ?_
    exact m_L_law_b1816 E hX hV hl0 hb9 hn9 K23 hK23 v1 v2 v3 v4 Z337 I338 L339 hZ hx k342 k343 k344 h
  · have h := h.2 c345
    refine j_iconst E (v := 0) dL_law_950 (by decide) ?_
    exact h.elim
set_option maxRecDepth 100000 in
def f_L_law_b952 (xs : Nat → Int32) (Ls : Nat) (K23 : Nat → Nat → Nat → Int32 → jZ → jI → jL → Prop) (v1 : Nat) (v2 : Nat) (v3 : Nat) (v4 : Int32) (Z : jZ) (I : jI) (L : jL) : Prop := (vp_in (v4 + (1 : Int32)) Ls ∧ (f_X11_knees v1 (xs (v4 + (1 : Int32)).toNatClampNeg) Z I L (fun r352 Z348 I349 L350 => (vp_in (v4 + (1 : Int32)) Ls ∧ (f_X12_knees v2 (xs (v4 + (1 : Int32)).toNatClampNeg) Z348 I349 L350 (fun r362 Z358 I359 L360 => ((r352 = r362 → f_L_law_b1816 xs Ls K23 v1 v2 v3 v4 Z358 I359 L360) ∧ (¬ (r352 = r362) → False))))))))
set_option maxHeartbeats 4000000 in
set_option maxRecDepth 100000 in
theorem m_L_law_b952 {G : jG} {Z0 : jZ} {xs : Nat → Int32} {Ls b k9 n9 : Nat} (E : jE G cL_law RL (Cond.arrayClass .byte :: jT) 8 (some .boolean) room_1 jRL) (hX : va_X b Ls xs (gS G) (gS G).heap ∧ b < (gS G).heap.size ∧ ¬ gA G b) (hV : jV (gA G) (gS G) (gS G).heap) (hl0 : (gL G).stackTraces = false) (hb9 : k9 + 27 ≤ 600002) (hn9 : n9 + 600 ≤ 7302232) (K23 : Nat → Nat → Nat → Int32 → jZ → jI → jL → Prop) (hK23 : ∀ (v1 : Nat) (v2 : Nat) (v3 : Nat) (v4 : Int32) (Z : jZ) (I : jI) (L : jL), SH Z → jext Z0 Z → jk Z v1 11 → jk Z v2 12 → jk Z v3 15 → K23 v1 v2 v3 v4 Z I L → jJ G 8 23 [(0, .ref b), (1, .ref v1), (2, .ref v2), (3, .ref v3), (4, .int v4)] [] Z I L (k9 + 27) (n9 + 600)) (v1 : Nat) (v2 : Nat) (v3 : Nat) (v4 : Int32) (Z : jZ) (I : jI) (L : jL) (hZ : SH Z) (hx : jext Z0 Z) (kv1 : jk Z v1 11) (kv2 : jk Z v2 12) (kv3 : jk Z v3 15) (h : f_L_law_b952 xs Ls K23 v1 v2 v3 v4 Z I L) : jJ G 8 952 [(0, .ref b), (1, .ref v1), (2, .ref v2), (3, .ref v3), (4, .int v4)] [] Z I L (k9 + 0) (n9 + 0) := by
  unfold f_L_law_b952 at h
  refine j_aload_n E dL_law_952 1 rfl ?_
  refine j_aload_n E dL_law_953 0 rfl ?_
  refine j_iload E dL_law_954 4 rfl ?_
  refine j_iconst E (v := 1) dL_law_956 (by decide) ?_
  refine j_iadd E dL_law_957 ?_
  obtain ⟨o346, h⟩ := h
  refine j_sld E hX.1 hX.2.1 hX.2.2 o346 dL_law_958 ?_
  refine j_callV E [.int (xs (v4 + (1 : Int32)).toNatClampNeg)] [] (c_X11_knees (gL G) (gD G) (gY G) v1 (xs (v4 + (1 : Int32)).toNatClampNeg) Z I L _ hZ kv1 h) (gwV W_1322 W_1323 W_1324 W_28 W_1321) rfl ⟨rfl, fy_X11_knees⟩ ⟨by decide, by decide⟩ (c := 11) rfl (by decide) kv1 rfl rfl (Nat.le_of_ble_eq_true rfl) ⟨by show k9 + 0 + 0 ≤ 600002; omega, by show n9 + 0 + 0 ≤ 7302232; omega⟩ dL_law_959 (fun v347 Z348 I349 L350 q351 => ?_)
  obtain ⟨yZ348, hZ348, r352, rfl, h⟩ := q351
  have hZ := hZ348
  have hx : jext Z0 Z348 := jext_trans hx yZ348
  have k353 := (yZ348 _ _ kv1).1
  have k354 := (yZ348 _ _ kv2).1
  have k355 := (yZ348 _ _ kv3).1
  show jJ G 8 962 [(0, .ref b), (1, .ref v1), (2, .ref v2), (3, .ref v3), (4, .int v4)] [.int r352] Z348 I349 L350 (k9 + 0) (n9 + 0)
  refine j_aload_n E dL_law_962 2 rfl ?_
  refine j_aload_n E dL_law_963 0 rfl ?_
  refine j_iload E dL_law_964 4 rfl ?_
  refine j_iconst E (v := 1) dL_law_966 (by decide) ?_
  refine j_iadd E dL_law_967 ?_
  obtain ⟨o356, h⟩ := h
  refine j_sld E hX.1 hX.2.1 hX.2.2 o356 dL_law_968 ?_
  refine j_callV E [.int (xs (v4 + (1 : Int32)).toNatClampNeg)] [.int r352] (c_X12_knees (gL G) (gD G) (gY G) v2 (xs (v4 + (1 : Int32)).toNatClampNeg) Z348 I349 L350 _ hZ k354 h) (gwV W_1326 W_1327 W_1328 W_679 W_1325) rfl ⟨rfl, fy_X12_knees⟩ ⟨by decide, by decide⟩ (c := 12) rfl (by decide) k354 rfl rfl (Nat.le_of_ble_eq_true rfl) ⟨by show k9 + 0 + 0 ≤ 600002; omega, by show n9 + 0 + 0 ≤ 7302232; omega⟩ dL_law_969 (fun v357 Z358 I359 L360 q361 => ?_)
  obtain ⟨yZ358, hZ358, r362, rfl, h⟩ := q361
  have hZ := hZ358
  have hx : jext Z0 Z358 := jext_trans hx yZ358
  have k363 := (yZ358 _ _ k353).1
  have k364 := (yZ358 _ _ k354).1
  have k365 := (yZ358 _ _ k355).1
  show jJ G 8 972 [(0, .ref b), (1, .ref v1), (2, .ref v2), (3, .ref v3), (4, .int v4)] [.int r362, .int r352] Z358 I359 L360 (k9 + 0) (n9 + 0)
  refine j_icmp_eq E 1816 dL_law_972 (by decide) (fun c366 => ?_) (fun c366 => ?_)
  · have h := h.1 c366
    refine j_sub [0, 1, 2, 3, 4] rfl ?_
    refine j_widen (k9 := k9 + 27) (n9 := n9 + 600) (by show k9 + 0 ≤ k9 + 27; omega) (by show n9 + 0 ≤ n9 + 600; omega) ?_
    exact m_L_law_b1816 E hX hV hl0 hb9 hn9 K23 hK23 v1 v2 v3 v4 Z358 I359 L360 hZ hx k363 k364 k365 h
  · have h := h.2 c366
    refine j_iconst E (v := 0) dL_law_975 (by decide) ?_
    exact h.elim
set_option maxRecDepth 100000 in
def f_L_law_b977 (xs : Nat → Int32) (Ls : Nat) (K23 : Nat → Nat → Nat → Int32 → jZ → jI → jL → Prop) (v1 : Nat) (v2 : Nat) (v3 : Nat) (v4 : Int32) (Z : jZ) (I : jI) (L : jL) : Prop := (vp_in (v4 + (1 : Int32)) Ls ∧ (vp_in (v4 + (2 : Int32)) Ls ∧ (f_X11_ways v1 (xs (v4 + (1 : Int32)).toNatClampNeg) (xs (v4 + (2 : Int32)).toNatClampNeg) Z I L (fun r374 Z370 I371 L372 => (vp_in (v4 + (1 : Int32)) Ls ∧ (vp_in (v4 + (2 : Int32)) Ls ∧ (f_X12_ways v2 (xs (v4 + (1 : Int32)).toNatClampNeg) (xs (v4 + (2 : Int32)).toNatClampNeg) Z370 I371 L372 (fun r385 Z381 I382 L383 => (((lg_cmp r374 r385) = 0 → f_L_law_b1816 xs Ls K23 v1 v2 v3 v4 Z381 I382 L383) ∧ (¬ ((lg_cmp r374 r385) = 0) → False))))))))))
set_option maxHeartbeats 4000000 in
set_option maxRecDepth 100000 in
theorem m_L_law_b977 {G : jG} {Z0 : jZ} {xs : Nat → Int32} {Ls b k9 n9 : Nat} (E : jE G cL_law RL (Cond.arrayClass .byte :: jT) 8 (some .boolean) room_1 jRL) (hX : va_X b Ls xs (gS G) (gS G).heap ∧ b < (gS G).heap.size ∧ ¬ gA G b) (hV : jV (gA G) (gS G) (gS G).heap) (hl0 : (gL G).stackTraces = false) (hb9 : k9 + 27 ≤ 600002) (hn9 : n9 + 600 ≤ 7302232) (K23 : Nat → Nat → Nat → Int32 → jZ → jI → jL → Prop) (hK23 : ∀ (v1 : Nat) (v2 : Nat) (v3 : Nat) (v4 : Int32) (Z : jZ) (I : jI) (L : jL), SH Z → jext Z0 Z → jk Z v1 11 → jk Z v2 12 → jk Z v3 15 → K23 v1 v2 v3 v4 Z I L → jJ G 8 23 [(0, .ref b), (1, .ref v1), (2, .ref v2), (3, .ref v3), (4, .int v4)] [] Z I L (k9 + 27) (n9 + 600)) (v1 : Nat) (v2 : Nat) (v3 : Nat) (v4 : Int32) (Z : jZ) (I : jI) (L : jL) (hZ : SH Z) (hx : jext Z0 Z) (kv1 : jk Z v1 11) (kv2 : jk Z v2 12) (kv3 : jk Z v3 15) (h : f_L_law_b977 xs Ls K23 v1 v2 v3 v4 Z I L) : jJ G 8 977 [(0, .ref b), (1, .ref v1), (2, .ref v2), (3, .ref v3), (4, .int v4)] [] Z I L (k9 + 0) (n9 + 0) := by
  unfold f_L_law_b977 at h
  refine j_aload_n E dL_law_977 1 rfl ?_
  refine j_aload_n E dL_law_978 0 rfl ?_
  refine j_iload E dL_law_979 4 rfl ?_
  refine j_iconst E (v := 1) dL_law_981 (by decide) ?_
  refine j_iadd E dL_law_982 ?_
  obtain ⟨o367, h⟩ := h
  refine j_sld E hX.1 hX.2.1 hX.2.2 o367 dL_law_983 ?_
  refine j_aload_n E dL_law_984 0 rfl ?_
  refine j_iload E dL_law_985 4 rfl ?_
  refine j_iconst E (v := 2) dL_law_987 (by decide) ?_
  refine j_iadd E dL_law_988 ?_
  obtain ⟨o368, h⟩ := h
  refine j_sld E hX.1 hX.2.1 hX.2.2 o368 dL_law_989 ?_
  refine j_callV E [.int (xs (v4 + (1 : Int32)).toNatClampNeg), .int (xs (v4 + (2 : Int32)).toNatClampNeg)] [] (c_X11_ways (gL G) (gD G) (gY G) v1 (xs (v4 + (1 : Int32)).toNatClampNeg) (xs (v4 + (2 : Int32)).toNatClampNeg) Z I L _ hZ kv1 h) (gwV W_1330 W_1331 W_1332 W_28 W_1329) rfl ⟨rfl, fy_X11_ways⟩ ⟨by decide, by decide⟩ (c := 11) rfl (by decide) kv1 rfl rfl (Nat.le_of_ble_eq_true rfl) ⟨by show k9 + 0 + 0 ≤ 600002; omega, by show n9 + 0 + 0 ≤ 7302232; omega⟩ dL_law_990 (fun v369 Z370 I371 L372 q373 => ?_)
  obtain ⟨yZ370, hZ370, r374, rfl, h⟩ := q373
  have hZ := hZ370
  have hx : jext Z0 Z370 := jext_trans hx yZ370
  have k375 := (yZ370 _ _ kv1).1
  have k376 := (yZ370 _ _ kv2).1
  have k377 := (yZ370 _ _ kv3).1
  show jJ G 8 993 [(0, .ref b), (1, .ref v1), (2, .ref v2), (3, .ref v3), (4, .int v4)] [.long r374] Z370 I371 L372 (k9 + 0) (n9 + 0)
  refine j_aload_n E dL_law_993 2 rfl ?_
  refine j_aload_n E dL_law_994 0 rfl ?_
  refine j_iload E dL_law_995 4 rfl ?_
  refine j_iconst E (v := 1) dL_law_997 (by decide) ?_
  refine j_iadd E dL_law_998 ?_
  obtain ⟨o378, h⟩ := h
  refine j_sld E hX.1 hX.2.1 hX.2.2 o378 dL_law_999 ?_
  refine j_aload_n E dL_law_1000 0 rfl ?_
  refine j_iload E dL_law_1001 4 rfl ?_
  refine j_iconst E (v := 2) dL_law_1003 (by decide) ?_
  refine j_iadd E dL_law_1004 ?_
  obtain ⟨o379, h⟩ := h
  refine j_sld E hX.1 hX.2.1 hX.2.2 o379 dL_law_1005 ?_
  refine j_callV E [.int (xs (v4 + (1 : Int32)).toNatClampNeg), .int (xs (v4 + (2 : Int32)).toNatClampNeg)] [.long r374] (c_X12_ways (gL G) (gD G) (gY G) v2 (xs (v4 + (1 : Int32)).toNatClampNeg) (xs (v4 + (2 : Int32)).toNatClampNeg) Z370 I371 L372 _ hZ k376 h) (gwV W_1334 W_1335 W_1336 W_679 W_1333) rfl ⟨rfl, fy_X12_ways⟩ ⟨by decide, by decide⟩ (c := 12) rfl (by decide) k376 rfl rfl (Nat.le_of_ble_eq_true rfl) ⟨by show k9 + 0 + 0 ≤ 600002; omega, by show n9 + 0 + 0 ≤ 7302232; omega⟩ dL_law_1006 (fun v380 Z381 I382 L383 q384 => ?_)
  obtain ⟨yZ381, hZ381, r385, rfl, h⟩ := q384
  have hZ := hZ381
  have hx : jext Z0 Z381 := jext_trans hx yZ381
  have k386 := (yZ381 _ _ k375).1
  have k387 := (yZ381 _ _ k376).1
  have k388 := (yZ381 _ _ k377).1
  show jJ G 8 1009 [(0, .ref b), (1, .ref v1), (2, .ref v2), (3, .ref v3), (4, .int v4)] [.long r385, .long r374] Z381 I382 L383 (k9 + 0) (n9 + 0)
  refine j_lcmp E dL_law_1009 ?_
  refine j_if_eq E 1816 dL_law_1010 (by decide) (fun c389 => ?_) (fun c389 => ?_)
  · have h := h.1 c389
    refine j_sub [0, 1, 2, 3, 4] rfl ?_
    refine j_widen (k9 := k9 + 27) (n9 := n9 + 600) (by show k9 + 0 ≤ k9 + 27; omega) (by show n9 + 0 ≤ n9 + 600; omega) ?_
    exact m_L_law_b1816 E hX hV hl0 hb9 hn9 K23 hK23 v1 v2 v3 v4 Z381 I382 L383 hZ hx k386 k387 k388 h
  · have h := h.2 c389
    refine j_iconst E (v := 0) dL_law_1013 (by decide) ?_
    exact h.elim
set_option maxRecDepth 100000 in
def f_L_law_b1015 (xs : Nat → Int32) (Ls : Nat) (K23 : Nat → Nat → Nat → Int32 → jZ → jI → jL → Prop) (v1 : Nat) (v2 : Nat) (v3 : Nat) (v4 : Int32) (Z : jZ) (I : jI) (L : jL) : Prop := (vp_in (v4 + (1 : Int32)) Ls ∧ (vp_in (v4 + (2 : Int32)) Ls ∧ (vp_in (v4 + (3 : Int32)) Ls ∧ (f_X11_trod v1 (xs (v4 + (1 : Int32)).toNatClampNeg) (xs (v4 + (2 : Int32)).toNatClampNeg) (xs (v4 + (3 : Int32)).toNatClampNeg) Z I L (fun r398 Z394 I395 L396 => (vp_in (v4 + (1 : Int32)) Ls ∧ (vp_in (v4 + (2 : Int32)) Ls ∧ (vp_in (v4 + (3 : Int32)) Ls ∧ (f_X12_trod v2 (xs (v4 + (1 : Int32)).toNatClampNeg) (xs (v4 + (2 : Int32)).toNatClampNeg) (xs (v4 + (3 : Int32)).toNatClampNeg) Z394 I395 L396 (fun r410 Z406 I407 L408 => ((r398 = r410 → f_L_law_b1816 xs Ls K23 v1 v2 v3 v4 Z406 I407 L408) ∧ (¬ (r398 = r410) → False))))))))))))
set_option maxHeartbeats 4000000 in
set_option maxRecDepth 100000 in
theorem m_L_law_b1015 {G : jG} {Z0 : jZ} {xs : Nat → Int32} {Ls b k9 n9 : Nat} (E : jE G cL_law RL (Cond.arrayClass .byte :: jT) 8 (some .boolean) room_1 jRL) (hX : va_X b Ls xs (gS G) (gS G).heap ∧ b < (gS G).heap.size ∧ ¬ gA G b) (hV : jV (gA G) (gS G) (gS G).heap) (hl0 : (gL G).stackTraces = false) (hb9 : k9 + 27 ≤ 600002) (hn9 : n9 + 600 ≤ 7302232) (K23 : Nat → Nat → Nat → Int32 → jZ → jI → jL → Prop) (hK23 : ∀ (v1 : Nat) (v2 : Nat) (v3 : Nat) (v4 : Int32) (Z : jZ) (I : jI) (L : jL), SH Z → jext Z0 Z → jk Z v1 11 → jk Z v2 12 → jk Z v3 15 → K23 v1 v2 v3 v4 Z I L → jJ G 8 23 [(0, .ref b), (1, .ref v1), (2, .ref v2), (3, .ref v3), (4, .int v4)] [] Z I L (k9 + 27) (n9 + 600)) (v1 : Nat) (v2 : Nat) (v3 : Nat) (v4 : Int32) (Z : jZ) (I : jI) (L : jL) (hZ : SH Z) (hx : jext Z0 Z) (kv1 : jk Z v1 11) (kv2 : jk Z v2 12) (kv3 : jk Z v3 15) (h : f_L_law_b1015 xs Ls K23 v1 v2 v3 v4 Z I L) : jJ G 8 1015 [(0, .ref b), (1, .ref v1), (2, .ref v2), (3, .ref v3), (4, .int v4)] [] Z I L (k9 + 0) (n9 + 0) := by
  unfold f_L_law_b1015 at h
  refine j_aload_n E dL_law_1015 1 rfl ?_
  refine j_aload_n E dL_law_1016 0 rfl ?_
  refine j_iload E dL_law_1017 4 rfl ?_
  refine j_iconst E (v := 1) dL_law_1019 (by decide) ?_
  refine j_iadd E dL_law_1020 ?_
  obtain ⟨o390, h⟩ := h
  refine j_sld E hX.1 hX.2.1 hX.2.2 o390 dL_law_1021 ?_
  refine j_aload_n E dL_law_1022 0 rfl ?_
  refine j_iload E dL_law_1023 4 rfl ?_
  refine j_iconst E (v := 2) dL_law_1025 (by decide) ?_
  refine j_iadd E dL_law_1026 ?_
  obtain ⟨o391, h⟩ := h
  refine j_sld E hX.1 hX.2.1 hX.2.2 o391 dL_law_1027 ?_
  refine j_aload_n E dL_law_1028 0 rfl ?_
  refine j_iload E dL_law_1029 4 rfl ?_
  refine j_iconst E (v := 3) dL_law_1031 (by decide) ?_
  refine j_iadd E dL_law_1032 ?_
  obtain ⟨o392, h⟩ := h
  refine j_sld E hX.1 hX.2.1 hX.2.2 o392 dL_law_1033 ?_
  refine j_callV E [.int (xs (v4 + (1 : Int32)).toNatClampNeg), .int (xs (v4 + (2 : Int32)).toNatClampNeg), .int (xs (v4 + (3 : Int32)).toNatClampNeg)] [] (c_X11_trod (gL G) (gD G) (gY G) v1 (xs (v4 + (1 : Int32)).toNatClampNeg) (xs (v4 + (2 : Int32)).toNatClampNeg) (xs (v4 + (3 : Int32)).toNatClampNeg) Z I L _ hZ kv1 h) (gwV W_1338 W_1339 W_1340 W_28 W_1337) rfl ⟨rfl, fy_X11_trod⟩ ⟨by decide, by decide⟩ (c := 11) rfl (by decide) kv1 rfl rfl (Nat.le_of_ble_eq_true rfl) ⟨by show k9 + 0 + 0 ≤ 600002; omega, by show n9 + 0 + 0 ≤ 7302232; omega⟩ dL_law_1034 (fun v393 Z394 I395 L396 q397 => ?_)
  obtain ⟨yZ394, hZ394, r398, rfl, h⟩ := q397
  have hZ := hZ394
  have hx : jext Z0 Z394 := jext_trans hx yZ394
  have k399 := (yZ394 _ _ kv1).1
  have k400 := (yZ394 _ _ kv2).1
  have k401 := (yZ394 _ _ kv3).1
  show jJ G 8 1037 [(0, .ref b), (1, .ref v1), (2, .ref v2), (3, .ref v3), (4, .int v4)] [.int r398] Z394 I395 L396 (k9 + 0) (n9 + 0)
  refine j_aload_n E dL_law_1037 2 rfl ?_
  refine j_aload_n E dL_law_1038 0 rfl ?_
  refine j_iload E dL_law_1039 4 rfl ?_
  refine j_iconst E (v := 1) dL_law_1041 (by decide) ?_
  refine j_iadd E dL_law_1042 ?_
  obtain ⟨o402, h⟩ := h
  refine j_sld E hX.1 hX.2.1 hX.2.2 o402 dL_law_1043 ?_
  refine j_aload_n E dL_law_1044 0 rfl ?_
  refine j_iload E dL_law_1045 4 rfl ?_
  refine j_iconst E (v := 2) dL_law_1047 (by decide) ?_
  refine j_iadd E dL_law_1048 ?_
  obtain ⟨o403, h⟩ := h
  refine j_sld E hX.1 hX.2.1 hX.2.2 o403 dL_law_1049 ?_
  refine j_aload_n E dL_law_1050 0 rfl ?_
  refine j_iload E dL_law_1051 4 rfl ?_
  refine j_iconst E (v := 3) dL_law_1053 (by decide) ?_
  refine j_iadd E dL_law_1054 ?_
  obtain ⟨o404, h⟩ := h
  refine j_sld E hX.1 hX.2.1 hX.2.2 o404 dL_law_1055 ?_
  refine j_callV E [.int (xs (v4 + (1 : Int32)).toNatClampNeg), .int (xs (v4 + (2 : Int32)).toNatClampNeg), .int (xs (v4 + (3 : Int32)).toNatClampNeg)] [.int r398] (c_X12_trod (gL G) (gD G) (gY G) v2 (xs (v4 + (1 : Int32)).toNatClampNeg) (xs (v4 + (2 : Int32)).toNatClampNeg) (xs (v4 + (3 : Int32)).toNatClampNeg) Z394 I395 L396 _ hZ k400 h) (gwV W_1342 W_1343 W_1344 W_679 W_1341) rfl ⟨rfl, fy_X12_trod⟩ ⟨by decide, by decide⟩ (c := 12) rfl (by decide) k400 rfl rfl (Nat.le_of_ble_eq_true rfl) ⟨by show k9 + 0 + 0 ≤ 600002; omega, by show n9 + 0 + 0 ≤ 7302232; omega⟩ dL_law_1056 (fun v405 Z406 I407 L408 q409 => ?_)
  obtain ⟨yZ406, hZ406, r410, rfl, h⟩ := q409
  have hZ := hZ406
  have hx : jext Z0 Z406 := jext_trans hx yZ406
  have k411 := (yZ406 _ _ k399).1
  have k412 := (yZ406 _ _ k400).1
  have k413 := (yZ406 _ _ k401).1
  show jJ G 8 1059 [(0, .ref b), (1, .ref v1), (2, .ref v2), (3, .ref v3), (4, .int v4)] [.int r410, .int r398] Z406 I407 L408 (k9 + 0) (n9 + 0)
  refine j_icmp_eq E 1816 dL_law_1059 (by decide) (fun c414 => ?_) (fun c414 => ?_)
  · have h := h.1 c414
    refine j_sub [0, 1, 2, 3, 4] rfl ?_
    refine j_widen (k9 := k9 + 27) (n9 := n9 + 600) (by show k9 + 0 ≤ k9 + 27; omega) (by show n9 + 0 ≤ n9 + 600; omega) ?_
    exact m_L_law_b1816 E hX hV hl0 hb9 hn9 K23 hK23 v1 v2 v3 v4 Z406 I407 L408 hZ hx k411 k412 k413 h
  · have h := h.2 c414
    refine j_iconst E (v := 0) dL_law_1062 (by decide) ?_
    exact h.elim
set_option maxRecDepth 100000 in
def f_L_law_b1064 (xs : Nat → Int32) (Ls : Nat) (K23 : Nat → Nat → Nat → Int32 → jZ → jI → jL → Prop) (v1 : Nat) (v2 : Nat) (v3 : Nat) (v4 : Int32) (Z : jZ) (I : jI) (L : jL) : Prop := (vp_in (v4 + (1 : Int32)) Ls ∧ (vp_in (v4 + (2 : Int32)) Ls ∧ (f_X11_who v1 (xs (v4 + (1 : Int32)).toNatClampNeg) (xs (v4 + (2 : Int32)).toNatClampNeg) Z I L (fun r422 Z418 I419 L420 => (vp_in (v4 + (1 : Int32)) Ls ∧ (vp_in (v4 + (2 : Int32)) Ls ∧ (f_X12_who v2 (xs (v4 + (1 : Int32)).toNatClampNeg) (xs (v4 + (2 : Int32)).toNatClampNeg) Z418 I419 L420 (fun r433 Z429 I430 L431 => ((r422 = r433 → f_L_law_b1816 xs Ls K23 v1 v2 v3 v4 Z429 I430 L431) ∧ (¬ (r422 = r433) → False))))))))))
set_option maxHeartbeats 4000000 in
set_option maxRecDepth 100000 in
theorem m_L_law_b1064 {G : jG} {Z0 : jZ} {xs : Nat → Int32} {Ls b k9 n9 : Nat} (E : jE G cL_law RL (Cond.arrayClass .byte :: jT) 8 (some .boolean) room_1 jRL) (hX : va_X b Ls xs (gS G) (gS G).heap ∧ b < (gS G).heap.size ∧ ¬ gA G b) (hV : jV (gA G) (gS G) (gS G).heap) (hl0 : (gL G).stackTraces = false) (hb9 : k9 + 27 ≤ 600002) (hn9 : n9 + 600 ≤ 7302232) (K23 : Nat → Nat → Nat → Int32 → jZ → jI → jL → Prop) (hK23 : ∀ (v1 : Nat) (v2 : Nat) (v3 : Nat) (v4 : Int32) (Z : jZ) (I : jI) (L : jL), SH Z → jext Z0 Z → jk Z v1 11 → jk Z v2 12 → jk Z v3 15 → K23 v1 v2 v3 v4 Z I L → jJ G 8 23 [(0, .ref b), (1, .ref v1), (2, .ref v2), (3, .ref v3), (4, .int v4)] [] Z I L (k9 + 27) (n9 + 600)) (v1 : Nat) (v2 : Nat) (v3 : Nat) (v4 : Int32) (Z : jZ) (I : jI) (L : jL) (hZ : SH Z) (hx : jext Z0 Z) (kv1 : jk Z v1 11) (kv2 : jk Z v2 12) (kv3 : jk Z v3 15) (h : f_L_law_b1064 xs Ls K23 v1 v2 v3 v4 Z I L) : jJ G 8 1064 [(0, .ref b), (1, .ref v1), (2, .ref v2), (3, .ref v3), (4, .int v4)] [] Z I L (k9 + 0) (n9 + 0) := by
  unfold f_L_law_b1064 at h
  refine j_aload_n E dL_law_1064 1 rfl ?_
  refine j_aload_n E dL_law_1065 0 rfl ?_
  refine j_iload E dL_law_1066 4 rfl ?_
  refine j_iconst E (v := 1) dL_law_1068 (by decide) ?_
  refine j_iadd E dL_law_1069 ?_
  obtain ⟨o415, h⟩ := h
  refine j_sld E hX.1 hX.2.1 hX.2.2 o415 dL_law_1070 ?_
  refine j_aload_n E dL_law_1071 0 rfl ?_
  refine j_iload E dL_law_1072 4 rfl ?_
  refine j_iconst E (v := 2) dL_law_1074 (by decide) ?_
  refine j_iadd E dL_law_1075 ?_
  obtain ⟨o416, h⟩ := h
  refine j_sld E hX.1 hX.2.1 hX.2.2 o416 dL_law_1076 ?_
  refine j_callV E [.int (xs (v4 + (1 : Int32)).toNatClampNeg), .int (xs (v4 + (2 : Int32)).toNatClampNeg)] [] (c_X11_who (gL G) (gD G) (gY G) v1 (xs (v4 + (1 : Int32)).toNatClampNeg) (xs (v4 + (2 : Int32)).toNatClampNeg) Z I L _ hZ kv1 h) (gwV W_1346 W_1347 W_1348 W_28 W_1345) rfl ⟨rfl, fy_X11_who⟩ ⟨by decide, by decide⟩ (c := 11) rfl (by decide) kv1 rfl rfl (Nat.le_of_ble_eq_true rfl) ⟨by show k9 + 0 + 0 ≤ 600002; omega, by show n9 + 0 + 0 ≤ 7302232; omega⟩ dL_law_1077 (fun v417 Z418 I419 L420 q421 => ?_)
  obtain ⟨yZ418, hZ418, r422, rfl, h⟩ := q421
  have hZ := hZ418
  have hx : jext Z0 Z418 := jext_trans hx yZ418
  have k423 := (yZ418 _ _ kv1).1
  have k424 := (yZ418 _ _ kv2).1
  have k425 := (yZ418 _ _ kv3).1
  show jJ G 8 1080 [(0, .ref b), (1, .ref v1), (2, .ref v2), (3, .ref v3), (4, .int v4)] [.int r422] Z418 I419 L420 (k9 + 0) (n9 + 0)
  refine j_aload_n E dL_law_1080 2 rfl ?_
  refine j_aload_n E dL_law_1081 0 rfl ?_
  refine j_iload E dL_law_1082 4 rfl ?_
  refine j_iconst E (v := 1) dL_law_1084 (by decide) ?_
  refine j_iadd E dL_law_1085 ?_
  obtain ⟨o426, h⟩ := h
  refine j_sld E hX.1 hX.2.1 hX.2.2 o426 dL_law_1086 ?_
  refine j_aload_n E dL_law_1087 0 rfl ?_
  refine j_iload E dL_law_1088 4 rfl ?_
  refine j_iconst E (v := 2) dL_law_1090 (by decide) ?_
  refine j_iadd E dL_law_1091 ?_
  obtain ⟨o427, h⟩ := h
  refine j_sld E hX.1 hX.2.1 hX.2.2 o427 dL_law_1092 ?_
  refine j_callV E [.int (xs (v4 + (1 : Int32)).toNatClampNeg), .int (xs (v4 + (2 : Int32)).toNatClampNeg)] [.int r422] (c_X12_who (gL G) (gD G) (gY G) v2 (xs (v4 + (1 : Int32)).toNatClampNeg) (xs (v4 + (2 : Int32)).toNatClampNeg) Z418 I419 L420 _ hZ k424 h) (gwV W_1350 W_1351 W_1352 W_679 W_1349) rfl ⟨rfl, fy_X12_who⟩ ⟨by decide, by decide⟩ (c := 12) rfl (by decide) k424 rfl rfl (Nat.le_of_ble_eq_true rfl) ⟨by show k9 + 0 + 0 ≤ 600002; omega, by show n9 + 0 + 0 ≤ 7302232; omega⟩ dL_law_1093 (fun v428 Z429 I430 L431 q432 => ?_)
  obtain ⟨yZ429, hZ429, r433, rfl, h⟩ := q432
  have hZ := hZ429
  have hx : jext Z0 Z429 := jext_trans hx yZ429
  have k434 := (yZ429 _ _ k423).1
  have k435 := (yZ429 _ _ k424).1
  have k436 := (yZ429 _ _ k425).1
  show jJ G 8 1096 [(0, .ref b), (1, .ref v1), (2, .ref v2), (3, .ref v3), (4, .int v4)] [.int r433, .int r422] Z429 I430 L431 (k9 + 0) (n9 + 0)
  refine j_icmp_eq E 1816 dL_law_1096 (by decide) (fun c437 => ?_) (fun c437 => ?_)
  · have h := h.1 c437
    refine j_sub [0, 1, 2, 3, 4] rfl ?_
    refine j_widen (k9 := k9 + 27) (n9 := n9 + 600) (by show k9 + 0 ≤ k9 + 27; omega) (by show n9 + 0 ≤ n9 + 600; omega) ?_
    exact m_L_law_b1816 E hX hV hl0 hb9 hn9 K23 hK23 v1 v2 v3 v4 Z429 I430 L431 hZ hx k434 k435 k436 h
  · have h := h.2 c437
    refine j_iconst E (v := 0) dL_law_1099 (by decide) ?_
    exact h.elim
set_option maxRecDepth 100000 in
def f_L_law_b1101 (xs : Nat → Int32) (Ls : Nat) (K23 : Nat → Nat → Nat → Int32 → jZ → jI → jL → Prop) (v1 : Nat) (v2 : Nat) (v3 : Nat) (v4 : Int32) (Z : jZ) (I : jI) (L : jL) : Prop := (vp_in (v4 + (1 : Int32)) Ls ∧ (vp_in (v4 + (2 : Int32)) Ls ∧ (f_X11_next v1 (xs (v4 + (1 : Int32)).toNatClampNeg) (xs (v4 + (2 : Int32)).toNatClampNeg) Z I L (fun r445 Z441 I442 L443 => (vp_in (v4 + (1 : Int32)) Ls ∧ (vp_in (v4 + (2 : Int32)) Ls ∧ (f_X12_next v2 (xs (v4 + (1 : Int32)).toNatClampNeg) (xs (v4 + (2 : Int32)).toNatClampNeg) Z441 I442 L443 (fun r456 Z452 I453 L454 => ((r445 = r456 → f_L_law_b1816 xs Ls K23 v1 v2 v3 v4 Z452 I453 L454) ∧ (¬ (r445 = r456) → False))))))))))
set_option maxHeartbeats 4000000 in
set_option maxRecDepth 100000 in
theorem m_L_law_b1101 {G : jG} {Z0 : jZ} {xs : Nat → Int32} {Ls b k9 n9 : Nat} (E : jE G cL_law RL (Cond.arrayClass .byte :: jT) 8 (some .boolean) room_1 jRL) (hX : va_X b Ls xs (gS G) (gS G).heap ∧ b < (gS G).heap.size ∧ ¬ gA G b) (hV : jV (gA G) (gS G) (gS G).heap) (hl0 : (gL G).stackTraces = false) (hb9 : k9 + 27 ≤ 600002) (hn9 : n9 + 600 ≤ 7302232) (K23 : Nat → Nat → Nat → Int32 → jZ → jI → jL → Prop) (hK23 : ∀ (v1 : Nat) (v2 : Nat) (v3 : Nat) (v4 : Int32) (Z : jZ) (I : jI) (L : jL), SH Z → jext Z0 Z → jk Z v1 11 → jk Z v2 12 → jk Z v3 15 → K23 v1 v2 v3 v4 Z I L → jJ G 8 23 [(0, .ref b), (1, .ref v1), (2, .ref v2), (3, .ref v3), (4, .int v4)] [] Z I L (k9 + 27) (n9 + 600)) (v1 : Nat) (v2 : Nat) (v3 : Nat) (v4 : Int32) (Z : jZ) (I : jI) (L : jL) (hZ : SH Z) (hx : jext Z0 Z) (kv1 : jk Z v1 11) (kv2 : jk Z v2 12) (kv3 : jk Z v3 15) (h : f_L_law_b1101 xs Ls K23 v1 v2 v3 v4 Z I L) : jJ G 8 1101 [(0, .ref b), (1, .ref v1), (2, .ref v2), (3, .ref v3), (4, .int v4)] [] Z I L (k9 + 0) (n9 + 0) := by
  unfold f_L_law_b1101 at h
  refine j_aload_n E dL_law_1101 1 rfl ?_
  refine j_aload_n E dL_law_1102 0 rfl ?_
  refine j_iload E dL_law_1103 4 rfl ?_
  refine j_iconst E (v := 1) dL_law_1105 (by decide) ?_
  refine j_iadd E dL_law_1106 ?_
  obtain ⟨o438, h⟩ := h
  refine j_sld E hX.1 hX.2.1 hX.2.2 o438 dL_law_1107 ?_
  refine j_aload_n E dL_law_1108 0 rfl ?_
  refine j_iload E dL_law_1109 4 rfl ?_
  refine j_iconst E (v := 2) dL_law_1111 (by decide) ?_
  refine j_iadd E dL_law_1112 ?_
  obtain ⟨o439, h⟩ := h
  refine j_sld E hX.1 hX.2.1 hX.2.2 o439 dL_law_1113 ?_
  refine j_callV E [.int (xs (v4 + (1 : Int32)).toNatClampNeg), .int (xs (v4 + (2 : Int32)).toNatClampNeg)] [] (c_X11_next (gL G) (gD G) (gY G) v1 (xs (v4 + (1 : Int32)).toNatClampNeg) (xs (v4 + (2 : Int32)).toNatClampNeg) Z I L _ hZ kv1 h) (gwV W_1354 W_1355 W_1356 W_28 W_1353) rfl ⟨rfl, fy_X11_next⟩ ⟨by decide, by decide⟩ (c := 11) rfl (by decide) kv1 rfl rfl (Nat.le_of_ble_eq_true rfl) ⟨by show k9 + 0 + 0 ≤ 600002; omega, by show n9 + 0 + 0 ≤ 7302232; omega⟩ dL_law_1114 (fun v440 Z441 I442 L443 q444 => ?_)
  obtain ⟨yZ441, hZ441, r445, rfl, h⟩ := q444
  have hZ := hZ441
  have hx : jext Z0 Z441 := jext_trans hx yZ441
  have k446 := (yZ441 _ _ kv1).1
  have k447 := (yZ441 _ _ kv2).1
  have k448 := (yZ441 _ _ kv3).1
  show jJ G 8 1117 [(0, .ref b), (1, .ref v1), (2, .ref v2), (3, .ref v3), (4, .int v4)] [.int r445] Z441 I442 L443 (k9 + 0) (n9 + 0)
  refine j_aload_n E dL_law_1117 2 rfl ?_
  refine j_aload_n E dL_law_1118 0 rfl ?_
  refine j_iload E dL_law_1119 4 rfl ?_
  refine j_iconst E (v := 1) dL_law_1121 (by decide) ?_
  refine j_iadd E dL_law_1122 ?_
  obtain ⟨o449, h⟩ := h
  refine j_sld E hX.1 hX.2.1 hX.2.2 o449 dL_law_1123 ?_
  refine j_aload_n E dL_law_1124 0 rfl ?_
  refine j_iload E dL_law_1125 4 rfl ?_
  refine j_iconst E (v := 2) dL_law_1127 (by decide) ?_
  refine j_iadd E dL_law_1128 ?_
  obtain ⟨o450, h⟩ := h
  refine j_sld E hX.1 hX.2.1 hX.2.2 o450 dL_law_1129 ?_
  refine j_callV E [.int (xs (v4 + (1 : Int32)).toNatClampNeg), .int (xs (v4 + (2 : Int32)).toNatClampNeg)] [.int r445] (c_X12_next (gL G) (gD G) (gY G) v2 (xs (v4 + (1 : Int32)).toNatClampNeg) (xs (v4 + (2 : Int32)).toNatClampNeg) Z441 I442 L443 _ hZ k447 h) (gwV W_1358 W_1359 W_1360 W_679 W_1357) rfl ⟨rfl, fy_X12_next⟩ ⟨by decide, by decide⟩ (c := 12) rfl (by decide) k447 rfl rfl (Nat.le_of_ble_eq_true rfl) ⟨by show k9 + 0 + 0 ≤ 600002; omega, by show n9 + 0 + 0 ≤ 7302232; omega⟩ dL_law_1130 (fun v451 Z452 I453 L454 q455 => ?_)
  obtain ⟨yZ452, hZ452, r456, rfl, h⟩ := q455
  have hZ := hZ452
  have hx : jext Z0 Z452 := jext_trans hx yZ452
  have k457 := (yZ452 _ _ k446).1
  have k458 := (yZ452 _ _ k447).1
  have k459 := (yZ452 _ _ k448).1
  show jJ G 8 1133 [(0, .ref b), (1, .ref v1), (2, .ref v2), (3, .ref v3), (4, .int v4)] [.int r456, .int r445] Z452 I453 L454 (k9 + 0) (n9 + 0)
  refine j_icmp_eq E 1816 dL_law_1133 (by decide) (fun c460 => ?_) (fun c460 => ?_)
  · have h := h.1 c460
    refine j_sub [0, 1, 2, 3, 4] rfl ?_
    refine j_widen (k9 := k9 + 27) (n9 := n9 + 600) (by show k9 + 0 ≤ k9 + 27; omega) (by show n9 + 0 ≤ n9 + 600; omega) ?_
    exact m_L_law_b1816 E hX hV hl0 hb9 hn9 K23 hK23 v1 v2 v3 v4 Z452 I453 L454 hZ hx k457 k458 k459 h
  · have h := h.2 c460
    refine j_iconst E (v := 0) dL_law_1136 (by decide) ?_
    exact h.elim
set_option maxRecDepth 100000 in
def f_L_law_b1138 (xs : Nat → Int32) (Ls : Nat) (K23 : Nat → Nat → Nat → Int32 → jZ → jI → jL → Prop) (v1 : Nat) (v2 : Nat) (v3 : Nat) (v4 : Int32) (Z : jZ) (I : jI) (L : jL) : Prop := (vp_in (v4 + (1 : Int32)) Ls ∧ (f_X11_bears v1 (xs (v4 + (1 : Int32)).toNatClampNeg) Z I L (fun r467 Z463 I464 L465 => (vp_in (v4 + (1 : Int32)) Ls ∧ (f_X12_bears v2 (xs (v4 + (1 : Int32)).toNatClampNeg) Z463 I464 L465 (fun r477 Z473 I474 L475 => ((r467 = r477 → f_L_law_b1816 xs Ls K23 v1 v2 v3 v4 Z473 I474 L475) ∧ (¬ (r467 = r477) → False))))))))
set_option maxHeartbeats 4000000 in
set_option maxRecDepth 100000 in
theorem m_L_law_b1138 {G : jG} {Z0 : jZ} {xs : Nat → Int32} {Ls b k9 n9 : Nat} (E : jE G cL_law RL (Cond.arrayClass .byte :: jT) 8 (some .boolean) room_1 jRL) (hX : va_X b Ls xs (gS G) (gS G).heap ∧ b < (gS G).heap.size ∧ ¬ gA G b) (hV : jV (gA G) (gS G) (gS G).heap) (hl0 : (gL G).stackTraces = false) (hb9 : k9 + 27 ≤ 600002) (hn9 : n9 + 600 ≤ 7302232) (K23 : Nat → Nat → Nat → Int32 → jZ → jI → jL → Prop) (hK23 : ∀ (v1 : Nat) (v2 : Nat) (v3 : Nat) (v4 : Int32) (Z : jZ) (I : jI) (L : jL), SH Z → jext Z0 Z → jk Z v1 11 → jk Z v2 12 → jk Z v3 15 → K23 v1 v2 v3 v4 Z I L → jJ G 8 23 [(0, .ref b), (1, .ref v1), (2, .ref v2), (3, .ref v3), (4, .int v4)] [] Z I L (k9 + 27) (n9 + 600)) (v1 : Nat) (v2 : Nat) (v3 : Nat) (v4 : Int32) (Z : jZ) (I : jI) (L : jL) (hZ : SH Z) (hx : jext Z0 Z) (kv1 : jk Z v1 11) (kv2 : jk Z v2 12) (kv3 : jk Z v3 15) (h : f_L_law_b1138 xs Ls K23 v1 v2 v3 v4 Z I L) : jJ G 8 1138 [(0, .ref b), (1, .ref v1), (2, .ref v2), (3, .ref v3), (4, .int v4)] [] Z I L (k9 + 0) (n9 + 0) := by
  unfold f_L_law_b1138 at h
  refine j_aload_n E dL_law_1138 1 rfl ?_
  refine j_aload_n E dL_law_1139 0 rfl ?_
  refine j_iload E dL_law_1140 4 rfl ?_
  refine j_iconst E (v := 1) dL_law_1142 (by decide) ?_
  refine j_iadd E dL_law_1143 ?_
  obtain ⟨o461, h⟩ := h
  refine j_sld E hX.1 hX.2.1 hX.2.2 o461 dL_law_1144 ?_
  refine j_callV E [.int (xs (v4 + (1 : Int32)).toNatClampNeg)] [] (c_X11_bears (gL G) (gD G) (gY G) v1 (xs (v4 + (1 : Int32)).toNatClampNeg) Z I L _ hZ kv1 h) (gwV W_1362 W_1363 W_1364 W_28 W_1361) rfl ⟨rfl, fy_X11_bears⟩ ⟨by decide, by decide⟩ (c := 11) rfl (by decide) kv1 rfl rfl (Nat.le_of_ble_eq_true rfl) ⟨by show k9 + 0 + 0 ≤ 600002; omega, by show n9 + 0 + 0 ≤ 7302232; omega⟩ dL_law_1145 (fun v462 Z463 I464 L465 q466 => ?_)
  obtain ⟨yZ463, hZ463, r467, rfl, h⟩ := q466
  have hZ := hZ463
  have hx : jext Z0 Z463 := jext_trans hx yZ463
  have k468 := (yZ463 _ _ kv1).1
  have k469 := (yZ463 _ _ kv2).1
  have k470 := (yZ463 _ _ kv3).1
  show jJ G 8 1148 [(0, .ref b), (1, .ref v1), (2, .ref v2), (3, .ref v3), (4, .int v4)] [.int r467] Z463 I464 L465 (k9 + 0) (n9 + 0)
  refine j_aload_n E dL_law_1148 2 rfl ?_
  refine j_aload_n E dL_law_1149 0 rfl ?_
  refine j_iload E dL_law_1150 4 rfl ?_
  refine j_iconst E (v := 1) dL_law_1152 (by decide) ?_
  refine j_iadd E dL_law_1153 ?_
  obtain ⟨o471, h⟩ := h
  refine j_sld E hX.1 hX.2.1 hX.2.2 o471 dL_law_1154 ?_
  refine j_callV E [.int (xs (v4 + (1 : Int32)).toNatClampNeg)] [.int r467] (c_X12_bears (gL G) (gD G) (gY G) v2 (xs (v4 + (1 : Int32)).toNatClampNeg) Z463 I464 L465 _ hZ k469 h) (gwV W_1366 W_1367 W_1368 W_679 W_1365) rfl ⟨rfl, fy_X12_bears⟩ ⟨by decide, by decide⟩ (c := 12) rfl (by decide) k469 rfl rfl (Nat.le_of_ble_eq_true rfl) ⟨by show k9 + 0 + 0 ≤ 600002; omega, by show n9 + 0 + 0 ≤ 7302232; omega⟩ dL_law_1155 (fun v472 Z473 I474 L475 q476 => ?_)
  obtain ⟨yZ473, hZ473, r477, rfl, h⟩ := q476
  have hZ := hZ473
  have hx : jext Z0 Z473 := jext_trans hx yZ473
  have k478 := (yZ473 _ _ k468).1
  have k479 := (yZ473 _ _ k469).1
  have k480 := (yZ473 _ _ k470).1
  show jJ G 8 1158 [(0, .ref b), (1, .ref v1), (2, .ref v2), (3, .ref v3), (4, .int v4)] [.int r477, .int r467] Z473 I474 L475 (k9 + 0) (n9 + 0)
  refine j_icmp_eq E 1816 dL_law_1158 (by decide) (fun c481 => ?_) (fun c481 => ?_)
  · have h := h.1 c481
    refine j_sub [0, 1, 2, 3, 4] rfl ?_
    refine j_widen (k9 := k9 + 27) (n9 := n9 + 600) (by show k9 + 0 ≤ k9 + 27; omega) (by show n9 + 0 ≤ n9 + 600; omega) ?_
    exact m_L_law_b1816 E hX hV hl0 hb9 hn9 K23 hK23 v1 v2 v3 v4 Z473 I474 L475 hZ hx k478 k479 k480 h
  · have h := h.2 c481
    refine j_iconst E (v := 0) dL_law_1161 (by decide) ?_
    exact h.elim
set_option maxRecDepth 100000 in
def f_L_law_b1163 (xs : Nat → Int32) (Ls : Nat) (K23 : Nat → Nat → Nat → Int32 → jZ → jI → jL → Prop) (v1 : Nat) (v2 : Nat) (v3 : Nat) (v4 : Int32) (Z : jZ) (I : jI) (L : jL) : Prop := (vp_in (v4 + (1 : Int32)) Ls ∧ (f_X11_breaks v1 (xs (v4 + (1 : Int32)).toNatClampNeg) Z I L (fun r488 Z484 I485 L486 => (vp_in (v4 + (1 : Int32)) Ls ∧ (f_X12_breaks v2 (xs (v4 + (1 : Int32)).toNatClampNeg) Z484 I485 L486 (fun r498 Z494 I495 L496 => ((r488 = r498 → f_L_law_b1816 xs Ls K23 v1 v2 v3 v4 Z494 I495 L496) ∧ (¬ (r488 = r498) → False))))))))
set_option maxHeartbeats 4000000 in
set_option maxRecDepth 100000 in
theorem m_L_law_b1163 {G : jG} {Z0 : jZ} {xs : Nat → Int32} {Ls b k9 n9 : Nat} (E : jE G cL_law RL (Cond.arrayClass .byte :: jT) 8 (some .boolean) room_1 jRL) (hX : va_X b Ls xs (gS G) (gS G).heap ∧ b < (gS G).heap.size ∧ ¬ gA G b) (hV : jV (gA G) (gS G) (gS G).heap) (hl0 : (gL G).stackTraces = false) (hb9 : k9 + 27 ≤ 600002) (hn9 : n9 + 600 ≤ 7302232) (K23 : Nat → Nat → Nat → Int32 → jZ → jI → jL → Prop) (hK23 : ∀ (v1 : Nat) (v2 : Nat) (v3 : Nat) (v4 : Int32) (Z : jZ) (I : jI) (L : jL), SH Z → jext Z0 Z → jk Z v1 11 → jk Z v2 12 → jk Z v3 15 → K23 v1 v2 v3 v4 Z I L → jJ G 8 23 [(0, .ref b), (1, .ref v1), (2, .ref v2), (3, .ref v3), (4, .int v4)] [] Z I L (k9 + 27) (n9 + 600)) (v1 : Nat) (v2 : Nat) (v3 : Nat) (v4 : Int32) (Z : jZ) (I : jI) (L : jL) (hZ : SH Z) (hx : jext Z0 Z) (kv1 : jk Z v1 11) (kv2 : jk Z v2 12) (kv3 : jk Z v3 15) (h : f_L_law_b1163 xs Ls K23 v1 v2 v3 v4 Z I L) : jJ G 8 1163 [(0, .ref b), (1, .ref v1), (2, .ref v2), (3, .ref v3), (4, .int v4)] [] Z I L (k9 + 0) (n9 + 0) := by
  unfold f_L_law_b1163 at h
  refine j_aload_n E dL_law_1163 1 rfl ?_
  refine j_aload_n E dL_law_1164 0 rfl ?_
  refine j_iload E dL_law_1165 4 rfl ?_
  refine j_iconst E (v := 1) dL_law_1167 (by decide) ?_
  refine j_iadd E dL_law_1168 ?_
  obtain ⟨o482, h⟩ := h
  refine j_sld E hX.1 hX.2.1 hX.2.2 o482 dL_law_1169 ?_
  refine j_callV E [.int (xs (v4 + (1 : Int32)).toNatClampNeg)] [] (c_X11_breaks (gL G) (gD G) (gY G) v1 (xs (v4 + (1 : Int32)).toNatClampNeg) Z I L _ hZ kv1 h) (gwV W_1370 W_1371 W_1372 W_28 W_1369) rfl ⟨rfl, fy_X11_breaks⟩ ⟨by decide, by decide⟩ (c := 11) rfl (by decide) kv1 rfl rfl (Nat.le_of_ble_eq_true rfl) ⟨by show k9 + 0 + 0 ≤ 600002; omega, by show n9 + 0 + 0 ≤ 7302232; omega⟩ dL_law_1170 (fun v483 Z484 I485 L486 q487 => ?_)
  obtain ⟨yZ484, hZ484, r488, rfl, h⟩ := q487
  have hZ := hZ484
  have hx : jext Z0 Z484 := jext_trans hx yZ484
  have k489 := (yZ484 _ _ kv1).1
  have k490 := (yZ484 _ _ kv2).1
  have k491 := (yZ484 _ _ kv3).1
  show jJ G 8 1173 [(0, .ref b), (1, .ref v1), (2, .ref v2), (3, .ref v3), (4, .int v4)] [.int r488] Z484 I485 L486 (k9 + 0) (n9 + 0)
  refine j_aload_n E dL_law_1173 2 rfl ?_
  refine j_aload_n E dL_law_1174 0 rfl ?_
  refine j_iload E dL_law_1175 4 rfl ?_
  refine j_iconst E (v := 1) dL_law_1177 (by decide) ?_
  refine j_iadd E dL_law_1178 ?_
  obtain ⟨o492, h⟩ := h
  refine j_sld E hX.1 hX.2.1 hX.2.2 o492 dL_law_1179 ?_
  refine j_callV E [.int (xs (v4 + (1 : Int32)).toNatClampNeg)] [.int r488] (c_X12_breaks (gL G) (gD G) (gY G) v2 (xs (v4 + (1 : Int32)).toNatClampNeg) Z484 I485 L486 _ hZ k490 h) (gwV W_1374 W_1375 W_1376 W_679 W_1373) rfl ⟨rfl, fy_X12_breaks⟩ ⟨by decide, by decide⟩ (c := 12) rfl (by decide) k490 rfl rfl (Nat.le_of_ble_eq_true rfl) ⟨by show k9 + 0 + 0 ≤ 600002; omega, by show n9 + 0 + 0 ≤ 7302232; omega⟩ dL_law_1180 (fun v493 Z494 I495 L496 q497 => ?_)
  obtain ⟨yZ494, hZ494, r498, rfl, h⟩ := q497
  have hZ := hZ494
  have hx : jext Z0 Z494 := jext_trans hx yZ494
  have k499 := (yZ494 _ _ k489).1
  have k500 := (yZ494 _ _ k490).1
  have k501 := (yZ494 _ _ k491).1
  show jJ G 8 1183 [(0, .ref b), (1, .ref v1), (2, .ref v2), (3, .ref v3), (4, .int v4)] [.int r498, .int r488] Z494 I495 L496 (k9 + 0) (n9 + 0)
  refine j_icmp_eq E 1816 dL_law_1183 (by decide) (fun c502 => ?_) (fun c502 => ?_)
  · have h := h.1 c502
    refine j_sub [0, 1, 2, 3, 4] rfl ?_
    refine j_widen (k9 := k9 + 27) (n9 := n9 + 600) (by show k9 + 0 ≤ k9 + 27; omega) (by show n9 + 0 ≤ n9 + 600; omega) ?_
    exact m_L_law_b1816 E hX hV hl0 hb9 hn9 K23 hK23 v1 v2 v3 v4 Z494 I495 L496 hZ hx k499 k500 k501 h
  · have h := h.2 c502
    refine j_iconst E (v := 0) dL_law_1186 (by decide) ?_
    exact h.elim
set_option maxRecDepth 100000 in
def f_L_law_b1188 (xs : Nat → Int32) (Ls : Nat) (K23 : Nat → Nat → Nat → Int32 → jZ → jI → jL → Prop) (v1 : Nat) (v2 : Nat) (v3 : Nat) (v4 : Int32) (Z : jZ) (I : jI) (L : jL) : Prop := (f_X11_all v1 Z I L (fun r508 Z504 I505 L506 => (f_X12_all v2 Z504 I505 L506 (fun r517 Z513 I514 L515 => ((r508 = r517 → f_L_law_b1816 xs Ls K23 v1 v2 v3 v4 Z513 I514 L515) ∧ (¬ (r508 = r517) → False))))))
set_option maxHeartbeats 4000000 in
set_option maxRecDepth 100000 in
theorem m_L_law_b1188 {G : jG} {Z0 : jZ} {xs : Nat → Int32} {Ls b k9 n9 : Nat} (E : jE G cL_law RL (Cond.arrayClass .byte :: jT) 8 (some .boolean) room_1 jRL) (hX : va_X b Ls xs (gS G) (gS G).heap ∧ b < (gS G).heap.size ∧ ¬ gA G b) (hV : jV (gA G) (gS G) (gS G).heap) (hl0 : (gL G).stackTraces = false) (hb9 : k9 + 27 ≤ 600002) (hn9 : n9 + 600 ≤ 7302232) (K23 : Nat → Nat → Nat → Int32 → jZ → jI → jL → Prop) (hK23 : ∀ (v1 : Nat) (v2 : Nat) (v3 : Nat) (v4 : Int32) (Z : jZ) (I : jI) (L : jL), SH Z → jext Z0 Z → jk Z v1 11 → jk Z v2 12 → jk Z v3 15 → K23 v1 v2 v3 v4 Z I L → jJ G 8 23 [(0, .ref b), (1, .ref v1), (2, .ref v2), (3, .ref v3), (4, .int v4)] [] Z I L (k9 + 27) (n9 + 600)) (v1 : Nat) (v2 : Nat) (v3 : Nat) (v4 : Int32) (Z : jZ) (I : jI) (L : jL) (hZ : SH Z) (hx : jext Z0 Z) (kv1 : jk Z v1 11) (kv2 : jk Z v2 12) (kv3 : jk Z v3 15) (h : f_L_law_b1188 xs Ls K23 v1 v2 v3 v4 Z I L) : jJ G 8 1188 [(0, .ref b), (1, .ref v1), (2, .ref v2), (3, .ref v3), (4, .int v4)] [] Z I L (k9 + 0) (n9 + 0) := by
  unfold f_L_law_b1188 at h
  refine j_aload_n E dL_law_1188 1 rfl ?_
  refine j_callV E [] [] (c_X11_all (gL G) (gD G) (gY G) v1 Z I L _ hZ kv1 h) (gwV W_1378 W_1379 W_1380 W_28 W_1377) rfl ⟨rfl, fy_X11_all⟩ ⟨by decide, by decide⟩ (c := 11) rfl (by decide) kv1 rfl rfl (Nat.le_of_ble_eq_true rfl) ⟨by show k9 + 0 + 0 ≤ 600002; omega, by show n9 + 0 + 0 ≤ 7302232; omega⟩ dL_law_1189 (fun v503 Z504 I505 L506 q507 => ?_)
  obtain ⟨yZ504, hZ504, r508, rfl, h⟩ := q507
  have hZ := hZ504
  have hx : jext Z0 Z504 := jext_trans hx yZ504
  have k509 := (yZ504 _ _ kv1).1
  have k510 := (yZ504 _ _ kv2).1
  have k511 := (yZ504 _ _ kv3).1
  show jJ G 8 1192 [(0, .ref b), (1, .ref v1), (2, .ref v2), (3, .ref v3), (4, .int v4)] [.int r508] Z504 I505 L506 (k9 + 0) (n9 + 0)
  refine j_aload_n E dL_law_1192 2 rfl ?_
  refine j_callV E [] [.int r508] (c_X12_all (gL G) (gD G) (gY G) v2 Z504 I505 L506 _ hZ k510 h) (gwV W_1382 W_1383 W_1384 W_679 W_1381) rfl ⟨rfl, fy_X12_all⟩ ⟨by decide, by decide⟩ (c := 12) rfl (by decide) k510 rfl rfl (Nat.le_of_ble_eq_true rfl) ⟨by show k9 + 0 + 0 ≤ 600002; omega, by show n9 + 0 + 0 ≤ 7302232; omega⟩ dL_law_1193 (fun v512 Z513 I514 L515 q516 => ?_)
  obtain ⟨yZ513, hZ513, r517, rfl, h⟩ := q516
  have hZ := hZ513
  have hx : jext Z0 Z513 := jext_trans hx yZ513
  have k518 := (yZ513 _ _ k509).1
  have k519 := (yZ513 _ _ k510).1
  have k520 := (yZ513 _ _ k511).1
  show jJ G 8 1196 [(0, .ref b), (1, .ref v1), (2, .ref v2), (3, .ref v3), (4, .int v4)] [.int r517, .int r508] Z513 I514 L515 (k9 + 0) (n9 + 0)
  refine j_icmp_eq E 1816 dL_law_1196 (by decide) (fun c521 => ?_) (fun c521 => ?_)
  · have h := h.1 c521
    refine j_sub [0, 1, 2, 3, 4] rfl ?_
    refine j_widen (k9 := k9 + 27) (n9 := n9 + 600) (by show k9 + 0 ≤ k9 + 27; omega) (by show n9 + 0 ≤ n9 + 600; omega) ?_
    exact m_L_law_b1816 E hX hV hl0 hb9 hn9 K23 hK23 v1 v2 v3 v4 Z513 I514 L515 hZ hx k518 k519 k520 h
  · have h := h.2 c521
    refine j_iconst E (v := 0) dL_law_1199 (by decide) ?_
    exact h.elim
set_option maxRecDepth 100000 in
def f_L_law_b1201 (xs : Nat → Int32) (Ls : Nat) (K23 : Nat → Nat → Nat → Int32 → jZ → jI → jL → Prop) (v1 : Nat) (v2 : Nat) (v3 : Nat) (v4 : Int32) (Z : jZ) (I : jI) (L : jL) : Prop := (vp_in (v4 + (1 : Int32)) Ls ∧ (f_X11_whole v1 (xs (v4 + (1 : Int32)).toNatClampNeg) Z I L (fun r528 Z524 I525 L526 => (vp_in (v4 + (1 : Int32)) Ls ∧ (f_X12_whole v2 (xs (v4 + (1 : Int32)).toNatClampNeg) Z524 I525 L526 (fun r538 Z534 I535 L536 => ((r528 = r538 → f_L_law_b1816 xs Ls K23 v1 v2 v3 v4 Z534 I535 L536) ∧ (¬ (r528 = r538) → False))))))))
set_option maxHeartbeats 4000000 in
set_option maxRecDepth 100000 in
theorem m_L_law_b1201 {G : jG} {Z0 : jZ} {xs : Nat → Int32} {Ls b k9 n9 : Nat} (E : jE G cL_law RL (Cond.arrayClass .byte :: jT) 8 (some .boolean) room_1 jRL) (hX : va_X b Ls xs (gS G) (gS G).heap ∧ b < (gS G).heap.size ∧ ¬ gA G b) (hV : jV (gA G) (gS G) (gS G).heap) (hl0 : (gL G).stackTraces = false) (hb9 : k9 + 27 ≤ 600002) (hn9 : n9 + 600 ≤ 7302232) (K23 : Nat → Nat → Nat → Int32 → jZ → jI → jL → Prop) (hK23 : ∀ (v1 : Nat) (v2 : Nat) (v3 : Nat) (v4 : Int32) (Z : jZ) (I : jI) (L : jL), SH Z → jext Z0 Z → jk Z v1 11 → jk Z v2 12 → jk Z v3 15 → K23 v1 v2 v3 v4 Z I L → jJ G 8 23 [(0, .ref b), (1, .ref v1), (2, .ref v2), (3, .ref v3), (4, .int v4)] [] Z I L (k9 + 27) (n9 + 600)) (v1 : Nat) (v2 : Nat) (v3 : Nat) (v4 : Int32) (Z : jZ) (I : jI) (L : jL) (hZ : SH Z) (hx : jext Z0 Z) (kv1 : jk Z v1 11) (kv2 : jk Z v2 12) (kv3 : jk Z v3 15) (h : f_L_law_b1201 xs Ls K23 v1 v2 v3 v4 Z I L) : jJ G 8 1201 [(0, .ref b), (1, .ref v1), (2, .ref v2), (3, .ref v3), (4, .int v4)] [] Z I L (k9 + 0) (n9 + 0) := by
  unfold f_L_law_b1201 at h
  refine j_aload_n E dL_law_1201 1 rfl ?_
  refine j_aload_n E dL_law_1202 0 rfl ?_
  refine j_iload E dL_law_1203 4 rfl ?_
  refine j_iconst E (v := 1) dL_law_1205 (by decide) ?_
  refine j_iadd E dL_law_1206 ?_
  obtain ⟨o522, h⟩ := h
  refine j_sld E hX.1 hX.2.1 hX.2.2 o522 dL_law_1207 ?_
  refine j_callV E [.int (xs (v4 + (1 : Int32)).toNatClampNeg)] [] (c_X11_whole (gL G) (gD G) (gY G) v1 (xs (v4 + (1 : Int32)).toNatClampNeg) Z I L _ hZ kv1 h) (gwV W_1386 W_1387 W_1388 W_28 W_1385) rfl ⟨rfl, fy_X11_whole⟩ ⟨by decide, by decide⟩ (c := 11) rfl (by decide) kv1 rfl rfl (Nat.le_of_ble_eq_true rfl) ⟨by show k9 + 0 + 0 ≤ 600002; omega, by show n9 + 0 + 0 ≤ 7302232; omega⟩ dL_law_1208 (fun v523 Z524 I525 L526 q527 => ?_)
  obtain ⟨yZ524, hZ524, r528, rfl, h⟩ := q527
  have hZ := hZ524
  have hx : jext Z0 Z524 := jext_trans hx yZ524
  have k529 := (yZ524 _ _ kv1).1
  have k530 := (yZ524 _ _ kv2).1
  have k531 := (yZ524 _ _ kv3).1
  show jJ G 8 1211 [(0, .ref b), (1, .ref v1), (2, .ref v2), (3, .ref v3), (4, .int v4)] [.int r528] Z524 I525 L526 (k9 + 0) (n9 + 0)
  refine j_aload_n E dL_law_1211 2 rfl ?_
  refine j_aload_n E dL_law_1212 0 rfl ?_
  refine j_iload E dL_law_1213 4 rfl ?_
  refine j_iconst E (v := 1) dL_law_1215 (by decide) ?_
  refine j_iadd E dL_law_1216 ?_
  obtain ⟨o532, h⟩ := h
  refine j_sld E hX.1 hX.2.1 hX.2.2 o532 dL_law_1217 ?_
  refine j_callV E [.int (xs (v4 + (1 : Int32)).toNatClampNeg)] [.int r528] (c_X12_whole (gL G) (gD G) (gY G) v2 (xs (v4 + (1 : Int32)).toNatClampNeg) Z524 I525 L526 _ hZ k530 h) (gwV W_1390 W_1391 W_1392 W_679 W_1389) rfl ⟨rfl, fy_X12_whole⟩ ⟨by decide, by decide⟩ (c := 12) rfl (by decide) k530 rfl rfl (Nat.le_of_ble_eq_true rfl) ⟨by show k9 + 0 + 0 ≤ 600002; omega, by show n9 + 0 + 0 ≤ 7302232; omega⟩ dL_law_1218 (fun v533 Z534 I535 L536 q537 => ?_)
  obtain ⟨yZ534, hZ534, r538, rfl, h⟩ := q537
  have hZ := hZ534
  have hx : jext Z0 Z534 := jext_trans hx yZ534
  have k539 := (yZ534 _ _ k529).1
  have k540 := (yZ534 _ _ k530).1
  have k541 := (yZ534 _ _ k531).1
  show jJ G 8 1221 [(0, .ref b), (1, .ref v1), (2, .ref v2), (3, .ref v3), (4, .int v4)] [.int r538, .int r528] Z534 I535 L536 (k9 + 0) (n9 + 0)
  refine j_icmp_eq E 1816 dL_law_1221 (by decide) (fun c542 => ?_) (fun c542 => ?_)
  · have h := h.1 c542
    refine j_sub [0, 1, 2, 3, 4] rfl ?_
    refine j_widen (k9 := k9 + 27) (n9 := n9 + 600) (by show k9 + 0 ≤ k9 + 27; omega) (by show n9 + 0 ≤ n9 + 600; omega) ?_
    exact m_L_law_b1816 E hX hV hl0 hb9 hn9 K23 hK23 v1 v2 v3 v4 Z534 I535 L536 hZ hx k539 k540 k541 h
  · have h := h.2 c542
    refine j_iconst E (v := 0) dL_law_1224 (by decide) ?_
    exact h.elim
set_option maxRecDepth 100000 in
def f_L_law_b1226 (xs : Nat → Int32) (Ls : Nat) (K23 : Nat → Nat → Nat → Int32 → jZ → jI → jL → Prop) (v1 : Nat) (v2 : Nat) (v3 : Nat) (v4 : Int32) (Z : jZ) (I : jI) (L : jL) : Prop := (vp_in (v4 + (1 : Int32)) Ls ∧ (f_X11_mends v1 (xs (v4 + (1 : Int32)).toNatClampNeg) Z I L (fun r549 I546 L547 => (vp_in (v4 + (1 : Int32)) Ls ∧ (f_X12_mends v2 (xs (v4 + (1 : Int32)).toNatClampNeg) Z I546 L547 (fun r556 I553 L554 => ((r549 = r556 → f_L_law_b1816 xs Ls K23 v1 v2 v3 v4 Z I553 L554) ∧ (¬ (r549 = r556) → False))))))))
set_option maxHeartbeats 4000000 in
set_option maxRecDepth 100000 in
theorem m_L_law_b1226 {G : jG} {Z0 : jZ} {xs : Nat → Int32} {Ls b k9 n9 : Nat} (E : jE G cL_law RL (Cond.arrayClass .byte :: jT) 8 (some .boolean) room_1 jRL) (hX : va_X b Ls xs (gS G) (gS G).heap ∧ b < (gS G).heap.size ∧ ¬ gA G b) (hV : jV (gA G) (gS G) (gS G).heap) (hl0 : (gL G).stackTraces = false) (hb9 : k9 + 27 ≤ 600002) (hn9 : n9 + 600 ≤ 7302232) (K23 : Nat → Nat → Nat → Int32 → jZ → jI → jL → Prop) (hK23 : ∀ (v1 : Nat) (v2 : Nat) (v3 : Nat) (v4 : Int32) (Z : jZ) (I : jI) (L : jL), SH Z → jext Z0 Z → jk Z v1 11 → jk Z v2 12 → jk Z v3 15 → K23 v1 v2 v3 v4 Z I L → jJ G 8 23 [(0, .ref b), (1, .ref v1), (2, .ref v2), (3, .ref v3), (4, .int v4)] [] Z I L (k9 + 27) (n9 + 600)) (v1 : Nat) (v2 : Nat) (v3 : Nat) (v4 : Int32) (Z : jZ) (I : jI) (L : jL) (hZ : SH Z) (hx : jext Z0 Z) (kv1 : jk Z v1 11) (kv2 : jk Z v2 12) (kv3 : jk Z v3 15) (h : f_L_law_b1226 xs Ls K23 v1 v2 v3 v4 Z I L) : jJ G 8 1226 [(0, .ref b), (1, .ref v1), (2, .ref v2), (3, .ref v3), (4, .int v4)] [] Z I L (k9 + 0) (n9 + 0) := by
  unfold f_L_law_b1226 at h
  refine j_aload_n E dL_law_1226 1 rfl ?_
  refine j_aload_n E dL_law_1227 0 rfl ?_
  refine j_iload E dL_law_1228 4 rfl ?_
  refine j_iconst E (v := 1) dL_law_1230 (by decide) ?_
  refine j_iadd E dL_law_1231 ?_
  obtain ⟨o543, h⟩ := h
  refine j_sld E hX.1 hX.2.1 hX.2.2 o543 dL_law_1232 ?_
  refine j_callV E [.int (xs (v4 + (1 : Int32)).toNatClampNeg)] [] (c_X11_mends (gL G) (gD G) (gY G) v1 (xs (v4 + (1 : Int32)).toNatClampNeg) Z I L _ hZ kv1 h) (gwV W_1394 W_1395 W_1396 W_28 W_1393) rfl ⟨rfl, fy_X11_mends⟩ ⟨by decide, by decide⟩ (c := 11) rfl (by decide) kv1 rfl rfl (Nat.le_of_ble_eq_true rfl) ⟨by show k9 + 0 + 0 ≤ 600002; omega, by show n9 + 0 + 0 ≤ 7302232; omega⟩ dL_law_1233 (fun v544 Z545 I546 L547 q548 => ?_)
  obtain ⟨rfl, r549, rfl, h⟩ := q548
  show jJ G 8 1236 [(0, .ref b), (1, .ref v1), (2, .ref v2), (3, .ref v3), (4, .int v4)] [.int r549] Z I546 L547 (k9 + 0) (n9 + 0)
  refine j_aload_n E dL_law_1236 2 rfl ?_
  refine j_aload_n E dL_law_1237 0 rfl ?_
  refine j_iload E dL_law_1238 4 rfl ?_
  refine j_iconst E (v := 1) dL_law_1240 (by decide) ?_
  refine j_iadd E dL_law_1241 ?_
  obtain ⟨o550, h⟩ := h
  refine j_sld E hX.1 hX.2.1 hX.2.2 o550 dL_law_1242 ?_
  refine j_callV E [.int (xs (v4 + (1 : Int32)).toNatClampNeg)] [.int r549] (c_X12_mends (gL G) (gD G) (gY G) v2 (xs (v4 + (1 : Int32)).toNatClampNeg) Z I546 L547 _ hZ kv2 h) (gwV W_1398 W_1399 W_1400 W_679 W_1397) rfl ⟨rfl, fy_X12_mends⟩ ⟨by decide, by decide⟩ (c := 12) rfl (by decide) kv2 rfl rfl (Nat.le_of_ble_eq_true rfl) ⟨by show k9 + 0 + 0 ≤ 600002; omega, by show n9 + 0 + 0 ≤ 7302232; omega⟩ dL_law_1243 (fun v551 Z552 I553 L554 q555 => ?_)
  obtain ⟨rfl, r556, rfl, h⟩ := q555
  show jJ G 8 1246 [(0, .ref b), (1, .ref v1), (2, .ref v2), (3, .ref v3), (4, .int v4)] [.int r556, .int r549] Z I553 L554 (k9 + 0) (n9 + 0)
  refine j_icmp_eq E 1816 dL_law_1246 (by decide) (fun c557 => ?_) (fun c557 => ?_)
  · have h := h.1 c557
    refine j_sub [0, 1, 2, 3, 4] rfl ?_
    refine j_widen (k9 := k9 + 27) (n9 := n9 + 600) (by show k9 + 0 ≤ k9 + 27; omega) (by show n9 + 0 ≤ n9 + 600; omega) ?_
    exact m_L_law_b1816 E hX hV hl0 hb9 hn9 K23 hK23 v1 v2 v3 v4 Z I553 L554 hZ hx kv1 kv2 kv3 h
  · have h := h.2 c557
    refine j_iconst E (v := 0) dL_law_1249 (by decide) ?_
    exact h.elim
set_option maxRecDepth 100000 in
def f_L_law_b1251 (xs : Nat → Int32) (Ls : Nat) (K23 : Nat → Nat → Nat → Int32 → jZ → jI → jL → Prop) (v1 : Nat) (v2 : Nat) (v3 : Nat) (v4 : Int32) (Z : jZ) (I : jI) (L : jL) : Prop := (vp_in (v4 + (1 : Int32)) Ls ∧ (f_X11_shut v1 (xs (v4 + (1 : Int32)).toNatClampNeg) Z I L (fun r564 Z560 I561 L562 => (vp_in (v4 + (1 : Int32)) Ls ∧ (f_X12_shut v2 (xs (v4 + (1 : Int32)).toNatClampNeg) Z560 I561 L562 (fun r574 Z570 I571 L572 => ((r564 = r574 → f_L_law_b1816 xs Ls K23 v1 v2 v3 v4 Z570 I571 L572) ∧ (¬ (r564 = r574) → False))))))))
set_option maxHeartbeats 4000000 in
set_option maxRecDepth 100000 in
theorem m_L_law_b1251 {G : jG} {Z0 : jZ} {xs : Nat → Int32} {Ls b k9 n9 : Nat} (E : jE G cL_law RL (Cond.arrayClass .byte :: jT) 8 (some .boolean) room_1 jRL) (hX : va_X b Ls xs (gS G) (gS G).heap ∧ b < (gS G).heap.size ∧ ¬ gA G b) (hV : jV (gA G) (gS G) (gS G).heap) (hl0 : (gL G).stackTraces = false) (hb9 : k9 + 27 ≤ 600002) (hn9 : n9 + 600 ≤ 7302232) (K23 : Nat → Nat → Nat → Int32 → jZ → jI → jL → Prop) (hK23 : ∀ (v1 : Nat) (v2 : Nat) (v3 : Nat) (v4 : Int32) (Z : jZ) (I : jI) (L : jL), SH Z → jext Z0 Z → jk Z v1 11 → jk Z v2 12 → jk Z v3 15 → K23 v1 v2 v3 v4 Z I L → jJ G 8 23 [(0, .ref b), (1, .ref v1), (2, .ref v2), (3, .ref v3), (4, .int v4)] [] Z I L (k9 + 27) (n9 + 600)) (v1 : Nat) (v2 : Nat) (v3 : Nat) (v4 : Int32) (Z : jZ) (I : jI) (L : jL) (hZ : SH Z) (hx : jext Z0 Z) (kv1 : jk Z v1 11) (kv2 : jk Z v2 12) (kv3 : jk Z v3 15) (h : f_L_law_b1251 xs Ls K23 v1 v2 v3 v4 Z I L) : jJ G 8 1251 [(0, .ref b), (1, .ref v1), (2, .ref v2), (3, .ref v3), (4, .int v4)] [] Z I L (k9 + 0) (n9 + 0) := by
  unfold f_L_law_b1251 at h
  refine j_aload_n E dL_law_1251 1 rfl ?_
  refine j_aload_n E dL_law_1252 0 rfl ?_
  refine j_iload E dL_law_1253 4 rfl ?_
  refine j_iconst E (v := 1) dL_law_1255 (by decide) ?_
  refine j_iadd E dL_law_1256 ?_
  obtain ⟨o558, h⟩ := h
  refine j_sld E hX.1 hX.2.1 hX.2.2 o558 dL_law_1257 ?_
  refine j_callV E [.int (xs (v4 + (1 : Int32)).toNatClampNeg)] [] (c_X11_shut (gL G) (gD G) (gY G) v1 (xs (v4 + (1 : Int32)).toNatClampNeg) Z I L _ hZ kv1 h) (gwV W_1402 W_1403 W_1404 W_28 W_1401) rfl ⟨rfl, fy_X11_shut⟩ ⟨by decide, by decide⟩ (c := 11) rfl (by decide) kv1 rfl rfl (Nat.le_of_ble_eq_true rfl) ⟨by show k9 + 0 + 0 ≤ 600002; omega, by show n9 + 0 + 0 ≤ 7302232; omega⟩ dL_law_1258 (fun v559 Z560 I561 L562 q563 => ?_)
  obtain ⟨yZ560, hZ560, r564, rfl, h⟩ := q563
  have hZ := hZ560
  have hx : jext Z0 Z560 := jext_trans hx yZ560
  have k565 := (yZ560 _ _ kv1).1
  have k566 := (yZ560 _ _ kv2).1
  have k567 := (yZ560 _ _ kv3).1
  show jJ G 8 1261 [(0, .ref b), (1, .ref v1), (2, .ref v2), (3, .ref v3), (4, .int v4)] [.int r564] Z560 I561 L562 (k9 + 0) (n9 + 0)
  refine j_aload_n E dL_law_1261 2 rfl ?_
  refine j_aload_n E dL_law_1262 0 rfl ?_
  refine j_iload E dL_law_1263 4 rfl ?_
  refine j_iconst E (v := 1) dL_law_1265 (by decide) ?_
  refine j_iadd E dL_law_1266 ?_
  obtain ⟨o568, h⟩ := h
  refine j_sld E hX.1 hX.2.1 hX.2.2 o568 dL_law_1267 ?_
  refine j_callV E [.int (xs (v4 + (1 : Int32)).toNatClampNeg)] [.int r564] (c_X12_shut (gL G) (gD G) (gY G) v2 (xs (v4 + (1 : Int32)).toNatClampNeg) Z560 I561 L562 _ hZ k566 h) (gwV W_1406 W_1407 W_1408 W_679 W_1405) rfl ⟨rfl, fy_X12_shut⟩ ⟨by decide, by decide⟩ (c := 12) rfl (by decide) k566 rfl rfl (Nat.le_of_ble_eq_true rfl) ⟨by show k9 + 0 + 0 ≤ 600002; omega, by show n9 + 0 + 0 ≤ 7302232; omega⟩ dL_law_1268 (fun v569 Z570 I571 L572 q573 => ?_)
  obtain ⟨yZ570, hZ570, r574, rfl, h⟩ := q573
  have hZ := hZ570
  have hx : jext Z0 Z570 := jext_trans hx yZ570
  have k575 := (yZ570 _ _ k565).1
  have k576 := (yZ570 _ _ k566).1
  have k577 := (yZ570 _ _ k567).1
  show jJ G 8 1271 [(0, .ref b), (1, .ref v1), (2, .ref v2), (3, .ref v3), (4, .int v4)] [.int r574, .int r564] Z570 I571 L572 (k9 + 0) (n9 + 0)
  refine j_icmp_eq E 1816 dL_law_1271 (by decide) (fun c578 => ?_) (fun c578 => ?_)
  · have h := h.1 c578
    refine j_sub [0, 1, 2, 3, 4] rfl ?_
    refine j_widen (k9 := k9 + 27) (n9 := n9 + 600) (by show k9 + 0 ≤ k9 + 27; omega) (by show n9 + 0 ≤ n9 + 600; omega) ?_
    exact m_L_law_b1816 E hX hV hl0 hb9 hn9 K23 hK23 v1 v2 v3 v4 Z570 I571 L572 hZ hx k575 k576 k577 h
  · have h := h.2 c578
    refine j_iconst E (v := 0) dL_law_1274 (by decide) ?_
    exact h.elim
set_option maxRecDepth 100000 in
def f_L_law_b1276 (xs : Nat → Int32) (Ls : Nat) (K23 : Nat → Nat → Nat → Int32 → jZ → jI → jL → Prop) (v1 : Nat) (v2 : Nat) (v3 : Nat) (v4 : Int32) (Z : jZ) (I : jI) (L : jL) : Prop := (vp_in (v4 + (1 : Int32)) Ls ∧ (f_X11_toll v1 (xs (v4 + (1 : Int32)).toNatClampNeg) Z I L (fun r585 Z581 I582 L583 => (vp_in (v4 + (1 : Int32)) Ls ∧ (f_X12_toll v2 (xs (v4 + (1 : Int32)).toNatClampNeg) Z581 I582 L583 (fun r595 Z591 I592 L593 => ((r585 = r595 → f_L_law_b1816 xs Ls K23 v1 v2 v3 v4 Z591 I592 L593) ∧ (¬ (r585 = r595) → False))))))))
set_option maxHeartbeats 4000000 in
set_option maxRecDepth 100000 in
theorem m_L_law_b1276 {G : jG} {Z0 : jZ} {xs : Nat → Int32} {Ls b k9 n9 : Nat} (E : jE G cL_law RL (Cond.arrayClass .byte :: jT) 8 (some .boolean) room_1 jRL) (hX : va_X b Ls xs (gS G) (gS G).heap ∧ b < (gS G).heap.size ∧ ¬ gA G b) (hV : jV (gA G) (gS G) (gS G).heap) (hl0 : (gL G).stackTraces = false) (hb9 : k9 + 27 ≤ 600002) (hn9 : n9 + 600 ≤ 7302232) (K23 : Nat → Nat → Nat → Int32 → jZ → jI → jL → Prop) (hK23 : ∀ (v1 : Nat) (v2 : Nat) (v3 : Nat) (v4 : Int32) (Z : jZ) (I : jI) (L : jL), SH Z → jext Z0 Z → jk Z v1 11 → jk Z v2 12 → jk Z v3 15 → K23 v1 v2 v3 v4 Z I L → jJ G 8 23 [(0, .ref b), (1, .ref v1), (2, .ref v2), (3, .ref v3), (4, .int v4)] [] Z I L (k9 + 27) (n9 + 600)) (v1 : Nat) (v2 : Nat) (v3 : Nat) (v4 : Int32) (Z : jZ) (I : jI) (L : jL) (hZ : SH Z) (hx : jext Z0 Z) (kv1 : jk Z v1 11) (kv2 : jk Z v2 12) (kv3 : jk Z v3 15) (h : f_L_law_b1276 xs Ls K23 v1 v2 v3 v4 Z I L) : jJ G 8 1276 [(0, .ref b), (1, .ref v1), (2, .ref v2), (3, .ref v3), (4, .int v4)] [] Z I L (k9 + 0) (n9 + 0) := by
  unfold f_L_law_b1276 at h
  refine j_aload_n E dL_law_1276 1 rfl ?_
  refine j_aload_n E dL_law_1277 0 rfl ?_
  refine j_iload E dL_law_1278 4 rfl ?_
  refine j_iconst E (v := 1) dL_law_1280 (by decide) ?_
  refine j_iadd E dL_law_1281 ?_
  obtain ⟨o579, h⟩ := h
  refine j_sld E hX.1 hX.2.1 hX.2.2 o579 dL_law_1282 ?_
  refine j_callV E [.int (xs (v4 + (1 : Int32)).toNatClampNeg)] [] (c_X11_toll (gL G) (gD G) (gY G) v1 (xs (v4 + (1 : Int32)).toNatClampNeg) Z I L _ hZ kv1 h) (gwV W_1410 W_1411 W_1412 W_28 W_1409) rfl ⟨rfl, fy_X11_toll⟩ ⟨by decide, by decide⟩ (c := 11) rfl (by decide) kv1 rfl rfl (Nat.le_of_ble_eq_true rfl) ⟨by show k9 + 0 + 0 ≤ 600002; omega, by show n9 + 0 + 0 ≤ 7302232; omega⟩ dL_law_1283 (fun v580 Z581 I582 L583 q584 => ?_)
  obtain ⟨yZ581, hZ581, r585, rfl, h⟩ := q584
  have hZ := hZ581
  have hx : jext Z0 Z581 := jext_trans hx yZ581
  have k586 := (yZ581 _ _ kv1).1
  have k587 := (yZ581 _ _ kv2).1
  have k588 := (yZ581 _ _ kv3).1
  show jJ G 8 1286 [(0, .ref b), (1, .ref v1), (2, .ref v2), (3, .ref v3), (4, .int v4)] [.int r585] Z581 I582 L583 (k9 + 0) (n9 + 0)
  refine j_aload_n E dL_law_1286 2 rfl ?_
  refine j_aload_n E dL_law_1287 0 rfl ?_
  refine j_iload E dL_law_1288 4 rfl ?_
  refine j_iconst E (v := 1) dL_law_1290 (by decide) ?_
  refine j_iadd E dL_law_1291 ?_
  obtain ⟨o589, h⟩ := h
  refine j_sld E hX.1 hX.2.1 hX.2.2 o589 dL_law_1292 ?_
  refine j_callV E [.int (xs (v4 + (1 : Int32)).toNatClampNeg)] [.int r585] (c_X12_toll (gL G) (gD G) (gY G) v2 (xs (v4 + (1 : Int32)).toNatClampNeg) Z581 I582 L583 _ hZ k587 h) (gwV W_1414 W_1415 W_1416 W_679 W_1413) rfl ⟨rfl, fy_X12_toll⟩ ⟨by decide, by decide⟩ (c := 12) rfl (by decide) k587 rfl rfl (Nat.le_of_ble_eq_true rfl) ⟨by show k9 + 0 + 0 ≤ 600002; omega, by show n9 + 0 + 0 ≤ 7302232; omega⟩ dL_law_1293 (fun v590 Z591 I592 L593 q594 => ?_)
  obtain ⟨yZ591, hZ591, r595, rfl, h⟩ := q594
  have hZ := hZ591
  have hx : jext Z0 Z591 := jext_trans hx yZ591
  have k596 := (yZ591 _ _ k586).1
  have k597 := (yZ591 _ _ k587).1
  have k598 := (yZ591 _ _ k588).1
  show jJ G 8 1296 [(0, .ref b), (1, .ref v1), (2, .ref v2), (3, .ref v3), (4, .int v4)] [.int r595, .int r585] Z591 I592 L593 (k9 + 0) (n9 + 0)
  refine j_icmp_eq E 1816 dL_law_1296 (by decide) (fun c599 => ?_) (fun c599 => ?_)
  · have h := h.1 c599
    refine j_sub [0, 1, 2, 3, 4] rfl ?_
    refine j_widen (k9 := k9 + 27) (n9 := n9 + 600) (by show k9 + 0 ≤ k9 + 27; omega) (by show n9 + 0 ≤ n9 + 600; omega) ?_
    exact m_L_law_b1816 E hX hV hl0 hb9 hn9 K23 hK23 v1 v2 v3 v4 Z591 I592 L593 hZ hx k596 k597 k598 h
  · have h := h.2 c599
    refine j_iconst E (v := 0) dL_law_1299 (by decide) ?_
    exact h.elim
set_option maxRecDepth 100000 in
def f_L_law_b1301 (xs : Nat → Int32) (Ls : Nat) (K23 : Nat → Nat → Nat → Int32 → jZ → jI → jL → Prop) (v1 : Nat) (v2 : Nat) (v3 : Nat) (v4 : Int32) (Z : jZ) (I : jI) (L : jL) : Prop := (f_X11_peace v1 Z I L (fun r605 Z601 I602 L603 => (f_X12_peace v2 Z601 I602 L603 (fun r614 Z610 I611 L612 => ((r605 = r614 → f_L_law_b1816 xs Ls K23 v1 v2 v3 v4 Z610 I611 L612) ∧ (¬ (r605 = r614) → False))))))
set_option maxHeartbeats 4000000 in
set_option maxRecDepth 100000 in
theorem m_L_law_b1301 {G : jG} {Z0 : jZ} {xs : Nat → Int32} {Ls b k9 n9 : Nat} (E : jE G cL_law RL (Cond.arrayClass .byte :: jT) 8 (some .boolean) room_1 jRL) (hX : va_X b Ls xs (gS G) (gS G).heap ∧ b < (gS G).heap.size ∧ ¬ gA G b) (hV : jV (gA G) (gS G) (gS G).heap) (hl0 : (gL G).stackTraces = false) (hb9 : k9 + 27 ≤ 600002) (hn9 : n9 + 600 ≤ 7302232) (K23 : Nat → Nat → Nat → Int32 → jZ → jI → jL → Prop) (hK23 : ∀ (v1 : Nat) (v2 : Nat) (v3 : Nat) (v4 : Int32) (Z : jZ) (I : jI) (L : jL), SH Z → jext Z0 Z → jk Z v1 11 → jk Z v2 12 → jk Z v3 15 → K23 v1 v2 v3 v4 Z I L → jJ G 8 23 [(0, .ref b), (1, .ref v1), (2, .ref v2), (3, .ref v3), (4, .int v4)] [] Z I L (k9 + 27) (n9 + 600)) (v1 : Nat) (v2 : Nat) (v3 : Nat) (v4 : Int32) (Z : jZ) (I : jI) (L : jL) (hZ : SH Z) (hx : jext Z0 Z) (kv1 : jk Z v1 11) (kv2 : jk Z v2 12) (kv3 : jk Z v3 15) (h : f_L_law_b1301 xs Ls K23 v1 v2 v3 v4 Z I L) : jJ G 8 1301 [(0, .ref b), (1, .ref v1), (2, .ref v2), (3, .ref v3), (4, .int v4)] [] Z I L (k9 + 0) (n9 + 0) := by
  unfold f_L_law_b1301 at h
  refine j_aload_n E dL_law_1301 1 rfl ?_
  refine j_callV E [] [] (c_X11_peace (gL G) (gD G) (gY G) v1 Z I L _ hZ kv1 h) (gwV W_1418 W_1419 W_1420 W_28 W_1417) rfl ⟨rfl, fy_X11_peace⟩ ⟨by decide, by decide⟩ (c := 11) rfl (by decide) kv1 rfl rfl (Nat.le_of_ble_eq_true rfl) ⟨by show k9 + 0 + 0 ≤ 600002; omega, by show n9 + 0 + 0 ≤ 7302232; omega⟩ dL_law_1302 (fun v600 Z601 I602 L603 q604 => ?_)
  obtain ⟨yZ601, hZ601, r605, rfl, h⟩ := q604
  have hZ := hZ601
  have hx : jext Z0 Z601 := jext_trans hx yZ601
  have k606 := (yZ601 _ _ kv1).1
  have k607 := (yZ601 _ _ kv2).1
  have k608 := (yZ601 _ _ kv3).1
  show jJ G 8 1305 [(0, .ref b), (1, .ref v1), (2, .ref v2), (3, .ref v3), (4, .int v4)] [.int r605] Z601 I602 L603 (k9 + 0) (n9 + 0)
  refine j_aload_n E dL_law_1305 2 rfl ?_
  refine j_callV E [] [.int r605] (c_X12_peace (gL G) (gD G) (gY G) v2 Z601 I602 L603 _ hZ k607 h) (gwV W_1422 W_1423 W_1424 W_679 W_1421) rfl ⟨rfl, fy_X12_peace⟩ ⟨by decide, by decide⟩ (c := 12) rfl (by decide) k607 rfl rfl (Nat.le_of_ble_eq_true rfl) ⟨by show k9 + 0 + 0 ≤ 600002; omega, by show n9 + 0 + 0 ≤ 7302232; omega⟩ dL_law_1306 (fun v609 Z610 I611 L612 q613 => ?_)
  obtain ⟨yZ610, hZ610, r614, rfl, h⟩ := q613
  have hZ := hZ610
  have hx : jext Z0 Z610 := jext_trans hx yZ610
  have k615 := (yZ610 _ _ k606).1
  have k616 := (yZ610 _ _ k607).1
  have k617 := (yZ610 _ _ k608).1
  show jJ G 8 1309 [(0, .ref b), (1, .ref v1), (2, .ref v2), (3, .ref v3), (4, .int v4)] [.int r614, .int r605] Z610 I611 L612 (k9 + 0) (n9 + 0)
  refine j_icmp_eq E 1816 dL_law_1309 (by decide) (fun c618 => ?_) (fun c618 => ?_)
  · have h := h.1 c618
    refine j_sub [0, 1, 2, 3, 4] rfl ?_
    refine j_widen (k9 := k9 + 27) (n9 := n9 + 600) (by show k9 + 0 ≤ k9 + 27; omega) (by show n9 + 0 ≤ n9 + 600; omega) ?_
    exact m_L_law_b1816 E hX hV hl0 hb9 hn9 K23 hK23 v1 v2 v3 v4 Z610 I611 L612 hZ hx k615 k616 k617 h
  · have h := h.2 c618
    refine j_iconst E (v := 0) dL_law_1312 (by decide) ?_
    exact h.elim
set_option maxRecDepth 100000 in
def f_L_law_b1314 (xs : Nat → Int32) (Ls : Nat) (K23 : Nat → Nat → Nat → Int32 → jZ → jI → jL → Prop) (v1 : Nat) (v2 : Nat) (v3 : Nat) (v4 : Int32) (Z : jZ) (I : jI) (L : jL) : Prop := (vp_in (v4 + (1 : Int32)) Ls ∧ (f_X11_lamps v1 (xs (v4 + (1 : Int32)).toNatClampNeg) Z I L (fun r625 I622 L623 => (vp_in (v4 + (1 : Int32)) Ls ∧ (f_X12_lamps v2 (xs (v4 + (1 : Int32)).toNatClampNeg) Z I622 L623 (fun r632 I629 L630 => ((r625 = r632 → f_L_law_b1816 xs Ls K23 v1 v2 v3 v4 Z I629 L630) ∧ (¬ (r625 = r632) → False))))))))
set_option maxHeartbeats 4000000 in
set_option maxRecDepth 100000 in
theorem m_L_law_b1314 {G : jG} {Z0 : jZ} {xs : Nat → Int32} {Ls b k9 n9 : Nat} (E : jE G cL_law RL (Cond.arrayClass .byte :: jT) 8 (some .boolean) room_1 jRL) (hX : va_X b Ls xs (gS G) (gS G).heap ∧ b < (gS G).heap.size ∧ ¬ gA G b) (hV : jV (gA G) (gS G) (gS G).heap) (hl0 : (gL G).stackTraces = false) (hb9 : k9 + 27 ≤ 600002) (hn9 : n9 + 600 ≤ 7302232) (K23 : Nat → Nat → Nat → Int32 → jZ → jI → jL → Prop) (hK23 : ∀ (v1 : Nat) (v2 : Nat) (v3 : Nat) (v4 : Int32) (Z : jZ) (I : jI) (L : jL), SH Z → jext Z0 Z → jk Z v1 11 → jk Z v2 12 → jk Z v3 15 → K23 v1 v2 v3 v4 Z I L → jJ G 8 23 [(0, .ref b), (1, .ref v1), (2, .ref v2), (3, .ref v3), (4, .int v4)] [] Z I L (k9 + 27) (n9 + 600)) (v1 : Nat) (v2 : Nat) (v3 : Nat) (v4 : Int32) (Z : jZ) (I : jI) (L : jL) (hZ : SH Z) (hx : jext Z0 Z) (kv1 : jk Z v1 11) (kv2 : jk Z v2 12) (kv3 : jk Z v3 15) (h : f_L_law_b1314 xs Ls K23 v1 v2 v3 v4 Z I L) : jJ G 8 1314 [(0, .ref b), (1, .ref v1), (2, .ref v2), (3, .ref v3), (4, .int v4)] [] Z I L (k9 + 0) (n9 + 0) := by
  unfold f_L_law_b1314 at h
  refine j_aload_n E dL_law_1314 1 rfl ?_
  refine j_aload_n E dL_law_1315 0 rfl ?_
  refine j_iload E dL_law_1316 4 rfl ?_
  refine j_iconst E (v := 1) dL_law_1318 (by decide) ?_
  refine j_iadd E dL_law_1319 ?_
  obtain ⟨o619, h⟩ := h
  refine j_sld E hX.1 hX.2.1 hX.2.2 o619 dL_law_1320 ?_
  refine j_callV E [.int (xs (v4 + (1 : Int32)).toNatClampNeg)] [] (c_X11_lamps (gL G) (gD G) (gY G) v1 (xs (v4 + (1 : Int32)).toNatClampNeg) Z I L _ hZ kv1 h) (gwV W_1426 W_1427 W_1428 W_28 W_1425) rfl ⟨rfl, fy_X11_lamps⟩ ⟨by decide, by decide⟩ (c := 11) rfl (by decide) kv1 rfl rfl (Nat.le_of_ble_eq_true rfl) ⟨by show k9 + 0 + 0 ≤ 600002; omega, by show n9 + 0 + 0 ≤ 7302232; omega⟩ dL_law_1321 (fun v620 Z621 I622 L623 q624 => ?_)
  obtain ⟨rfl, r625, rfl, h⟩ := q624
  show jJ G 8 1324 [(0, .ref b), (1, .ref v1), (2, .ref v2), (3, .ref v3), (4, .int v4)] [.int r625] Z I622 L623 (k9 + 0) (n9 + 0)
  refine j_aload_n E dL_law_1324 2 rfl ?_
  refine j_aload_n E dL_law_1325 0 rfl ?_
  refine j_iload E dL_law_1326 4 rfl ?_
  refine j_iconst E (v := 1) dL_law_1328 (by decide) ?_
  refine j_iadd E dL_law_1329 ?_
  obtain ⟨o626, h⟩ := h
  refine j_sld E hX.1 hX.2.1 hX.2.2 o626 dL_law_1330 ?_
  refine j_callV E [.int (xs (v4 + (1 : Int32)).toNatClampNeg)] [.int r625] (c_X12_lamps (gL G) (gD G) (gY G) v2 (xs (v4 + (1 : Int32)).toNatClampNeg) Z I622 L623 _ hZ kv2 h) (gwV W_1430 W_1431 W_1432 W_679 W_1429) rfl ⟨rfl, fy_X12_lamps⟩ ⟨by decide, by decide⟩ (c := 12) rfl (by decide) kv2 rfl rfl (Nat.le_of_ble_eq_true rfl) ⟨by show k9 + 0 + 0 ≤ 600002; omega, by show n9 + 0 + 0 ≤ 7302232; omega⟩ dL_law_1331 (fun v627 Z628 I629 L630 q631 => ?_)
  obtain ⟨rfl, r632, rfl, h⟩ := q631
  show jJ G 8 1334 [(0, .ref b), (1, .ref v1), (2, .ref v2), (3, .ref v3), (4, .int v4)] [.int r632, .int r625] Z I629 L630 (k9 + 0) (n9 + 0)
  refine j_icmp_eq E 1816 dL_law_1334 (by decide) (fun c633 => ?_) (fun c633 => ?_)
  · have h := h.1 c633
    refine j_sub [0, 1, 2, 3, 4] rfl ?_
    refine j_widen (k9 := k9 + 27) (n9 := n9 + 600) (by show k9 + 0 ≤ k9 + 27; omega) (by show n9 + 0 ≤ n9 + 600; omega) ?_
    exact m_L_law_b1816 E hX hV hl0 hb9 hn9 K23 hK23 v1 v2 v3 v4 Z I629 L630 hZ hx kv1 kv2 kv3 h
  · have h := h.2 c633
    refine j_iconst E (v := 0) dL_law_1337 (by decide) ?_
    exact h.elim
set_option maxRecDepth 100000 in
def f_L_law_b1339 (xs : Nat → Int32) (Ls : Nat) (K23 : Nat → Nat → Nat → Int32 → jZ → jI → jL → Prop) (v1 : Nat) (v2 : Nat) (v3 : Nat) (v4 : Int32) (Z : jZ) (I : jI) (L : jL) : Prop := (vp_in (v4 + (1 : Int32)) Ls ∧ (vp_in (v4 + (2 : Int32)) Ls ∧ (f_X11_would v1 (xs (v4 + (1 : Int32)).toNatClampNeg) (xs (v4 + (2 : Int32)).toNatClampNeg) Z I L (fun r641 Z637 I638 L639 => (vp_in (v4 + (1 : Int32)) Ls ∧ (vp_in (v4 + (2 : Int32)) Ls ∧ (f_X12_would v2 (xs (v4 + (1 : Int32)).toNatClampNeg) (xs (v4 + (2 : Int32)).toNatClampNeg) Z637 I638 L639 (fun r652 Z648 I649 L650 => ((r641 = r652 → f_L_law_b1816 xs Ls K23 v1 v2 v3 v4 Z648 I649 L650) ∧ (¬ (r641 = r652) → False))))))))))
set_option maxHeartbeats 4000000 in
set_option maxRecDepth 100000 in
theorem m_L_law_b1339 {G : jG} {Z0 : jZ} {xs : Nat → Int32} {Ls b k9 n9 : Nat} (E : jE G cL_law RL (Cond.arrayClass .byte :: jT) 8 (some .boolean) room_1 jRL) (hX : va_X b Ls xs (gS G) (gS G).heap ∧ b < (gS G).heap.size ∧ ¬ gA G b) (hV : jV (gA G) (gS G) (gS G).heap) (hl0 : (gL G).stackTraces = false) (hb9 : k9 + 27 ≤ 600002) (hn9 : n9 + 600 ≤ 7302232) (K23 : Nat → Nat → Nat → Int32 → jZ → jI → jL → Prop) (hK23 : ∀ (v1 : Nat) (v2 : Nat) (v3 : Nat) (v4 : Int32) (Z : jZ) (I : jI) (L : jL), SH Z → jext Z0 Z → jk Z v1 11 → jk Z v2 12 → jk Z v3 15 → K23 v1 v2 v3 v4 Z I L → jJ G 8 23 [(0, .ref b), (1, .ref v1), (2, .ref v2), (3, .ref v3), (4, .int v4)] [] Z I L (k9 + 27) (n9 + 600)) (v1 : Nat) (v2 : Nat) (v3 : Nat) (v4 : Int32) (Z : jZ) (I : jI) (L : jL) (hZ : SH Z) (hx : jext Z0 Z) (kv1 : jk Z v1 11) (kv2 : jk Z v2 12) (kv3 : jk Z v3 15) (h : f_L_law_b1339 xs Ls K23 v1 v2 v3 v4 Z I L) : jJ G 8 1339 [(0, .ref b), (1, .ref v1), (2, .ref v2), (3, .ref v3), (4, .int v4)] [] Z I L (k9 + 0) (n9 + 0) := by
  unfold f_L_law_b1339 at h
  refine j_aload_n E dL_law_1339 1 rfl ?_
  refine j_aload_n E dL_law_1340 0 rfl ?_
  refine j_iload E dL_law_1341 4 rfl ?_
  refine j_iconst E (v := 1) dL_law_1343 (by decide) ?_
  refine j_iadd E dL_law_1344 ?_
  obtain ⟨o634, h⟩ := h
  refine j_sld E hX.1 hX.2.1 hX.2.2 o634 dL_law_1345 ?_
  refine j_aload_n E dL_law_1346 0 rfl ?_
  refine j_iload E dL_law_1347 4 rfl ?_
  refine j_iconst E (v := 2) dL_law_1349 (by decide) ?_
  refine j_iadd E dL_law_1350 ?_
  obtain ⟨o635, h⟩ := h
  refine j_sld E hX.1 hX.2.1 hX.2.2 o635 dL_law_1351 ?_
  refine j_callV E [.int (xs (v4 + (1 : Int32)).toNatClampNeg), .int (xs (v4 + (2 : Int32)).toNatClampNeg)] [] (c_X11_would (gL G) (gD G) (gY G) v1 (xs (v4 + (1 : Int32)).toNatClampNeg) (xs (v4 + (2 : Int32)).toNatClampNeg) Z I L _ hZ kv1 h) (gwV W_1434 W_1435 W_1436 W_28 W_1433) rfl ⟨rfl, fy_X11_would⟩ ⟨by decide, by decide⟩ (c := 11) rfl (by decide) kv1 rfl rfl (Nat.le_of_ble_eq_true rfl) ⟨by show k9 + 0 + 0 ≤ 600002; omega, by show n9 + 0 + 0 ≤ 7302232; omega⟩ dL_law_1352 (fun v636 Z637 I638 L639 q640 => ?_)
  obtain ⟨yZ637, hZ637, r641, rfl, h⟩ := q640
  have hZ := hZ637
  have hx : jext Z0 Z637 := jext_trans hx yZ637
  have k642 := (yZ637 _ _ kv1).1
  have k643 := (yZ637 _ _ kv2).1
  have k644 := (yZ637 _ _ kv3).1
  show jJ G 8 1355 [(0, .ref b), (1, .ref v1), (2, .ref v2), (3, .ref v3), (4, .int v4)] [.int r641] Z637 I638 L639 (k9 + 0) (n9 + 0)
  refine j_aload_n E dL_law_1355 2 rfl ?_
  refine j_aload_n E dL_law_1356 0 rfl ?_
  refine j_iload E dL_law_1357 4 rfl ?_
  refine j_iconst E (v := 1) dL_law_1359 (by decide) ?_
  refine j_iadd E dL_law_1360 ?_
  obtain ⟨o645, h⟩ := h
  refine j_sld E hX.1 hX.2.1 hX.2.2 o645 dL_law_1361 ?_
  refine j_aload_n E dL_law_1362 0 rfl ?_
  refine j_iload E dL_law_1363 4 rfl ?_
  refine j_iconst E (v := 2) dL_law_1365 (by decide) ?_
  refine j_iadd E dL_law_1366 ?_
  obtain ⟨o646, h⟩ := h
  refine j_sld E hX.1 hX.2.1 hX.2.2 o646 dL_law_1367 ?_
  refine j_callV E [.int (xs (v4 + (1 : Int32)).toNatClampNeg), .int (xs (v4 + (2 : Int32)).toNatClampNeg)] [.int r641] (c_X12_would (gL G) (gD G) (gY G) v2 (xs (v4 + (1 : Int32)).toNatClampNeg) (xs (v4 + (2 : Int32)).toNatClampNeg) Z637 I638 L639 _ hZ k643 h) (gwV W_1438 W_1439 W_1440 W_679 W_1437) rfl ⟨rfl, fy_X12_would⟩ ⟨by decide, by decide⟩ (c := 12) rfl (by decide) k643 rfl rfl (Nat.le_of_ble_eq_true rfl) ⟨by show k9 + 0 + 0 ≤ 600002; omega, by show n9 + 0 + 0 ≤ 7302232; omega⟩ dL_law_1368 (fun v647 Z648 I649 L650 q651 => ?_)
  obtain ⟨yZ648, hZ648, r652, rfl, h⟩ := q651
  have hZ := hZ648
  have hx : jext Z0 Z648 := jext_trans hx yZ648
  have k653 := (yZ648 _ _ k642).1
  have k654 := (yZ648 _ _ k643).1
  have k655 := (yZ648 _ _ k644).1
  show jJ G 8 1371 [(0, .ref b), (1, .ref v1), (2, .ref v2), (3, .ref v3), (4, .int v4)] [.int r652, .int r641] Z648 I649 L650 (k9 + 0) (n9 + 0)
  refine j_icmp_eq E 1816 dL_law_1371 (by decide) (fun c656 => ?_) (fun c656 => ?_)
  · have h := h.1 c656
    refine j_sub [0, 1, 2, 3, 4] rfl ?_
    refine j_widen (k9 := k9 + 27) (n9 := n9 + 600) (by show k9 + 0 ≤ k9 + 27; omega) (by show n9 + 0 ≤ n9 + 600; omega) ?_
    exact m_L_law_b1816 E hX hV hl0 hb9 hn9 K23 hK23 v1 v2 v3 v4 Z648 I649 L650 hZ hx k653 k654 k655 h
  · have h := h.2 c656
    refine j_iconst E (v := 0) dL_law_1374 (by decide) ?_
    exact h.elim
set_option maxRecDepth 100000 in
def f_L_law_b1376 (xs : Nat → Int32) (Ls : Nat) (K23 : Nat → Nat → Nat → Int32 → jZ → jI → jL → Prop) (v1 : Nat) (v2 : Nat) (v3 : Nat) (v4 : Int32) (Z : jZ) (I : jI) (L : jL) : Prop := (vp_in (v4 + (1 : Int32)) Ls ∧ (f_X11_best v1 (xs (v4 + (1 : Int32)).toNatClampNeg) Z I L (fun r663 Z659 I660 L661 => (vp_in (v4 + (1 : Int32)) Ls ∧ (f_X12_best v2 (xs (v4 + (1 : Int32)).toNatClampNeg) Z659 I660 L661 (fun r673 Z669 I670 L671 => ((r663 = r673 → f_L_law_b1816 xs Ls K23 v1 v2 v3 v4 Z669 I670 L671) ∧ (¬ (r663 = r673) → False))))))))
set_option maxHeartbeats 4000000 in
set_option maxRecDepth 100000 in
theorem m_L_law_b1376 {G : jG} {Z0 : jZ} {xs : Nat → Int32} {Ls b k9 n9 : Nat} (E : jE G cL_law RL (Cond.arrayClass .byte :: jT) 8 (some .boolean) room_1 jRL) (hX : va_X b Ls xs (gS G) (gS G).heap ∧ b < (gS G).heap.size ∧ ¬ gA G b) (hV : jV (gA G) (gS G) (gS G).heap) (hl0 : (gL G).stackTraces = false) (hb9 : k9 + 27 ≤ 600002) (hn9 : n9 + 600 ≤ 7302232) (K23 : Nat → Nat → Nat → Int32 → jZ → jI → jL → Prop) (hK23 : ∀ (v1 : Nat) (v2 : Nat) (v3 : Nat) (v4 : Int32) (Z : jZ) (I : jI) (L : jL), SH Z → jext Z0 Z → jk Z v1 11 → jk Z v2 12 → jk Z v3 15 → K23 v1 v2 v3 v4 Z I L → jJ G 8 23 [(0, .ref b), (1, .ref v1), (2, .ref v2), (3, .ref v3), (4, .int v4)] [] Z I L (k9 + 27) (n9 + 600)) (v1 : Nat) (v2 : Nat) (v3 : Nat) (v4 : Int32) (Z : jZ) (I : jI) (L : jL) (hZ : SH Z) (hx : jext Z0 Z) (kv1 : jk Z v1 11) (kv2 : jk Z v2 12) (kv3 : jk Z v3 15) (h : f_L_law_b1376 xs Ls K23 v1 v2 v3 v4 Z I L) : jJ G 8 1376 [(0, .ref b), (1, .ref v1), (2, .ref v2), (3, .ref v3), (4, .int v4)] [] Z I L (k9 + 0) (n9 + 0) := by
  unfold f_L_law_b1376 at h
  refine j_aload_n E dL_law_1376 1 rfl ?_
  refine j_aload_n E dL_law_1377 0 rfl ?_
  refine j_iload E dL_law_1378 4 rfl ?_
  refine j_iconst E (v := 1) dL_law_1380 (by decide) ?_
  refine j_iadd E dL_law_1381 ?_
  obtain ⟨o657, h⟩ := h
  refine j_sld E hX.1 hX.2.1 hX.2.2 o657 dL_law_1382 ?_
  refine j_callV E [.int (xs (v4 + (1 : Int32)).toNatClampNeg)] [] (c_X11_best (gL G) (gD G) (gY G) v1 (xs (v4 + (1 : Int32)).toNatClampNeg) Z I L _ hZ kv1 h) (gwV W_1442 W_1443 W_1444 W_28 W_1441) rfl ⟨rfl, fy_X11_best⟩ ⟨by decide, by decide⟩ (c := 11) rfl (by decide) kv1 rfl rfl (Nat.le_of_ble_eq_true rfl) ⟨by show k9 + 0 + 0 ≤ 600002; omega, by show n9 + 0 + 0 ≤ 7302232; omega⟩ dL_law_1383 (fun v658 Z659 I660 L661 q662 => ?_)
  obtain ⟨yZ659, hZ659, r663, rfl, h⟩ := q662
  have hZ := hZ659
  have hx : jext Z0 Z659 := jext_trans hx yZ659
  have k664 := (yZ659 _ _ kv1).1
  have k665 := (yZ659 _ _ kv2).1
  have k666 := (yZ659 _ _ kv3).1
  show jJ G 8 1386 [(0, .ref b), (1, .ref v1), (2, .ref v2), (3, .ref v3), (4, .int v4)] [.int r663] Z659 I660 L661 (k9 + 0) (n9 + 0)
  refine j_aload_n E dL_law_1386 2 rfl ?_
  refine j_aload_n E dL_law_1387 0 rfl ?_
  refine j_iload E dL_law_1388 4 rfl ?_
  refine j_iconst E (v := 1) dL_law_1390 (by decide) ?_
  refine j_iadd E dL_law_1391 ?_
  obtain ⟨o667, h⟩ := h
  refine j_sld E hX.1 hX.2.1 hX.2.2 o667 dL_law_1392 ?_
  refine j_callV E [.int (xs (v4 + (1 : Int32)).toNatClampNeg)] [.int r663] (c_X12_best (gL G) (gD G) (gY G) v2 (xs (v4 + (1 : Int32)).toNatClampNeg) Z659 I660 L661 _ hZ k665 h) (gwV W_1446 W_1447 W_1448 W_679 W_1445) rfl ⟨rfl, fy_X12_best⟩ ⟨by decide, by decide⟩ (c := 12) rfl (by decide) k665 rfl rfl (Nat.le_of_ble_eq_true rfl) ⟨by show k9 + 0 + 0 ≤ 600002; omega, by show n9 + 0 + 0 ≤ 7302232; omega⟩ dL_law_1393 (fun v668 Z669 I670 L671 q672 => ?_)
  obtain ⟨yZ669, hZ669, r673, rfl, h⟩ := q672
  have hZ := hZ669
  have hx : jext Z0 Z669 := jext_trans hx yZ669
  have k674 := (yZ669 _ _ k664).1
  have k675 := (yZ669 _ _ k665).1
  have k676 := (yZ669 _ _ k666).1
  show jJ G 8 1396 [(0, .ref b), (1, .ref v1), (2, .ref v2), (3, .ref v3), (4, .int v4)] [.int r673, .int r663] Z669 I670 L671 (k9 + 0) (n9 + 0)
  refine j_icmp_eq E 1816 dL_law_1396 (by decide) (fun c677 => ?_) (fun c677 => ?_)
  · have h := h.1 c677
    refine j_sub [0, 1, 2, 3, 4] rfl ?_
    refine j_widen (k9 := k9 + 27) (n9 := n9 + 600) (by show k9 + 0 ≤ k9 + 27; omega) (by show n9 + 0 ≤ n9 + 600; omega) ?_
    exact m_L_law_b1816 E hX hV hl0 hb9 hn9 K23 hK23 v1 v2 v3 v4 Z669 I670 L671 hZ hx k674 k675 k676 h
  · have h := h.2 c677
    refine j_iconst E (v := 0) dL_law_1399 (by decide) ?_
    exact h.elim
set_option maxRecDepth 100000 in
def f_L_law_b1401 (xs : Nat → Int32) (Ls : Nat) (K23 : Nat → Nat → Nat → Int32 → jZ → jI → jL → Prop) (v1 : Nat) (v2 : Nat) (v3 : Nat) (v4 : Int32) (Z : jZ) (I : jI) (L : jL) : Prop := (vp_in (v4 + (1 : Int32)) Ls ∧ (f_X11_market v1 (xs (v4 + (1 : Int32)).toNatClampNeg) Z I L (fun r684 Z680 I681 L682 => (vp_in (v4 + (1 : Int32)) Ls ∧ (f_X12_market v2 (xs (v4 + (1 : Int32)).toNatClampNeg) Z680 I681 L682 (fun r694 Z690 I691 L692 => ((r684 = r694 → f_L_law_b1816 xs Ls K23 v1 v2 v3 v4 Z690 I691 L692) ∧ (¬ (r684 = r694) → False))))))))
set_option maxHeartbeats 4000000 in
set_option maxRecDepth 100000 in
theorem m_L_law_b1401 {G : jG} {Z0 : jZ} {xs : Nat → Int32} {Ls b k9 n9 : Nat} (E : jE G cL_law RL (Cond.arrayClass .byte :: jT) 8 (some .boolean) room_1 jRL) (hX : va_X b Ls xs (gS G) (gS G).heap ∧ b < (gS G).heap.size ∧ ¬ gA G b) (hV : jV (gA G) (gS G) (gS G).heap) (hl0 : (gL G).stackTraces = false) (hb9 : k9 + 27 ≤ 600002) (hn9 : n9 + 600 ≤ 7302232) (K23 : Nat → Nat → Nat → Int32 → jZ → jI → jL → Prop) (hK23 : ∀ (v1 : Nat) (v2 : Nat) (v3 : Nat) (v4 : Int32) (Z : jZ) (I : jI) (L : jL), SH Z → jext Z0 Z → jk Z v1 11 → jk Z v2 12 → jk Z v3 15 → K23 v1 v2 v3 v4 Z I L → jJ G 8 23 [(0, .ref b), (1, .ref v1), (2, .ref v2), (3, .ref v3), (4, .int v4)] [] Z I L (k9 + 27) (n9 + 600)) (v1 : Nat) (v2 : Nat) (v3 : Nat) (v4 : Int32) (Z : jZ) (I : jI) (L : jL) (hZ : SH Z) (hx : jext Z0 Z) (kv1 : jk Z v1 11) (kv2 : jk Z v2 12) (kv3 : jk Z v3 15) (h : f_L_law_b1401 xs Ls K23 v1 v2 v3 v4 Z I L) : jJ G 8 1401 [(0, .ref b), (1, .ref v1), (2, .ref v2), (3, .ref v3), (4, .int v4)] [] Z I L (k9 + 0) (n9 + 0) := by
  unfold f_L_law_b1401 at h
  refine j_aload_n E dL_law_1401 1 rfl ?_
  refine j_aload_n E dL_law_1402 0 rfl ?_
  refine j_iload E dL_law_1403 4 rfl ?_
  refine j_iconst E (v := 1) dL_law_1405 (by decide) ?_
  refine j_iadd E dL_law_1406 ?_
  obtain ⟨o678, h⟩ := h
  refine j_sld E hX.1 hX.2.1 hX.2.2 o678 dL_law_1407 ?_
  refine j_callV E [.int (xs (v4 + (1 : Int32)).toNatClampNeg)] [] (c_X11_market (gL G) (gD G) (gY G) v1 (xs (v4 + (1 : Int32)).toNatClampNeg) Z I L _ hZ kv1 h) (gwV W_1450 W_1451 W_1452 W_28 W_1449) rfl ⟨rfl, fy_X11_market⟩ ⟨by decide, by decide⟩ (c := 11) rfl (by decide) kv1 rfl rfl (Nat.le_of_ble_eq_true rfl) ⟨by show k9 + 0 + 0 ≤ 600002; omega, by show n9 + 0 + 0 ≤ 7302232; omega⟩ dL_law_1408 (fun v679 Z680 I681 L682 q683 => ?_)
  obtain ⟨yZ680, hZ680, r684, rfl, h⟩ := q683
  have hZ := hZ680
  have hx : jext Z0 Z680 := jext_trans hx yZ680
  have k685 := (yZ680 _ _ kv1).1
  have k686 := (yZ680 _ _ kv2).1
  have k687 := (yZ680 _ _ kv3).1
  show jJ G 8 1411 [(0, .ref b), (1, .ref v1), (2, .ref v2), (3, .ref v3), (4, .int v4)] [.int r684] Z680 I681 L682 (k9 + 0) (n9 + 0)
  refine j_aload_n E dL_law_1411 2 rfl ?_
  refine j_aload_n E dL_law_1412 0 rfl ?_
  refine j_iload E dL_law_1413 4 rfl ?_
  refine j_iconst E (v := 1) dL_law_1415 (by decide) ?_
  refine j_iadd E dL_law_1416 ?_
  obtain ⟨o688, h⟩ := h
  refine j_sld E hX.1 hX.2.1 hX.2.2 o688 dL_law_1417 ?_
  refine j_callV E [.int (xs (v4 + (1 : Int32)).toNatClampNeg)] [.int r684] (c_X12_market (gL G) (gD G) (gY G) v2 (xs (v4 + (1 : Int32)).toNatClampNeg) Z680 I681 L682 _ hZ k686 h) (gwV W_1454 W_1455 W_1456 W_679 W_1453) rfl ⟨rfl, fy_X12_market⟩ ⟨by decide, by decide⟩ (c := 12) rfl (by decide) k686 rfl rfl (Nat.le_of_ble_eq_true rfl) ⟨by show k9 + 0 + 0 ≤ 600002; omega, by show n9 + 0 + 0 ≤ 7302232; omega⟩ dL_law_1418 (fun v689 Z690 I691 L692 q693 => ?_)
  obtain ⟨yZ690, hZ690, r694, rfl, h⟩ := q693
  have hZ := hZ690
  have hx : jext Z0 Z690 := jext_trans hx yZ690
  have k695 := (yZ690 _ _ k685).1
  have k696 := (yZ690 _ _ k686).1
  have k697 := (yZ690 _ _ k687).1
  show jJ G 8 1421 [(0, .ref b), (1, .ref v1), (2, .ref v2), (3, .ref v3), (4, .int v4)] [.int r694, .int r684] Z690 I691 L692 (k9 + 0) (n9 + 0)
  refine j_icmp_eq E 1816 dL_law_1421 (by decide) (fun c698 => ?_) (fun c698 => ?_)
  · have h := h.1 c698
    refine j_sub [0, 1, 2, 3, 4] rfl ?_
    refine j_widen (k9 := k9 + 27) (n9 := n9 + 600) (by show k9 + 0 ≤ k9 + 27; omega) (by show n9 + 0 ≤ n9 + 600; omega) ?_
    exact m_L_law_b1816 E hX hV hl0 hb9 hn9 K23 hK23 v1 v2 v3 v4 Z690 I691 L692 hZ hx k695 k696 k697 h
  · have h := h.2 c698
    refine j_iconst E (v := 0) dL_law_1424 (by decide) ?_
    exact h.elim
set_option maxRecDepth 100000 in
def f_L_law_b1426 (xs : Nat → Int32) (Ls : Nat) (K23 : Nat → Nat → Nat → Int32 → jZ → jI → jL → Prop) (v1 : Nat) (v2 : Nat) (v3 : Nat) (v4 : Int32) (Z : jZ) (I : jI) (L : jL) : Prop := (vp_in (v4 + (1 : Int32)) Ls ∧ (vp_in (v4 + (2 : Int32)) Ls ∧ (f_X11_parts v1 (xs (v4 + (1 : Int32)).toNatClampNeg) (xs (v4 + (2 : Int32)).toNatClampNeg) Z I L (fun r706 I703 L704 => (vp_in (v4 + (1 : Int32)) Ls ∧ (vp_in (v4 + (2 : Int32)) Ls ∧ (f_X12_parts v2 (xs (v4 + (1 : Int32)).toNatClampNeg) (xs (v4 + (2 : Int32)).toNatClampNeg) Z I703 L704 (fun r714 I711 L712 => ((r706 = r714 → f_L_law_b1816 xs Ls K23 v1 v2 v3 v4 Z I711 L712) ∧ (¬ (r706 = r714) → False))))))))))
set_option maxHeartbeats 4000000 in
set_option maxRecDepth 100000 in
theorem m_L_law_b1426 {G : jG} {Z0 : jZ} {xs : Nat → Int32} {Ls b k9 n9 : Nat} (E : jE G cL_law RL (Cond.arrayClass .byte :: jT) 8 (some .boolean) room_1 jRL) (hX : va_X b Ls xs (gS G) (gS G).heap ∧ b < (gS G).heap.size ∧ ¬ gA G b) (hV : jV (gA G) (gS G) (gS G).heap) (hl0 : (gL G).stackTraces = false) (hb9 : k9 + 27 ≤ 600002) (hn9 : n9 + 600 ≤ 7302232) (K23 : Nat → Nat → Nat → Int32 → jZ → jI → jL → Prop) (hK23 : ∀ (v1 : Nat) (v2 : Nat) (v3 : Nat) (v4 : Int32) (Z : jZ) (I : jI) (L : jL), SH Z → jext Z0 Z → jk Z v1 11 → jk Z v2 12 → jk Z v3 15 → K23 v1 v2 v3 v4 Z I L → jJ G 8 23 [(0, .ref b), (1, .ref v1), (2, .ref v2), (3, .ref v3), (4, .int v4)] [] Z I L (k9 + 27) (n9 + 600)) (v1 : Nat) (v2 : Nat) (v3 : Nat) (v4 : Int32) (Z : jZ) (I : jI) (L : jL) (hZ : SH Z) (hx : jext Z0 Z) (kv1 : jk Z v1 11) (kv2 : jk Z v2 12) (kv3 : jk Z v3 15) (h : f_L_law_b1426 xs Ls K23 v1 v2 v3 v4 Z I L) : jJ G 8 1426 [(0, .ref b), (1, .ref v1), (2, .ref v2), (3, .ref v3), (4, .int v4)] [] Z I L (k9 + 0) (n9 + 0) := by
  unfold f_L_law_b1426 at h
  refine j_aload_n E dL_law_1426 1 rfl ?_
  refine j_aload_n E dL_law_1427 0 rfl ?_
  refine j_iload E dL_law_1428 4 rfl ?_
  refine j_iconst E (v := 1) dL_law_1430 (by decide) ?_
  refine j_iadd E dL_law_1431 ?_
  obtain ⟨o699, h⟩ := h
  refine j_sld E hX.1 hX.2.1 hX.2.2 o699 dL_law_1432 ?_
  refine j_aload_n E dL_law_1433 0 rfl ?_
  refine j_iload E dL_law_1434 4 rfl ?_
  refine j_iconst E (v := 2) dL_law_1436 (by decide) ?_
  refine j_iadd E dL_law_1437 ?_
  obtain ⟨o700, h⟩ := h
  refine j_sld E hX.1 hX.2.1 hX.2.2 o700 dL_law_1438 ?_
  refine j_callV E [.int (xs (v4 + (1 : Int32)).toNatClampNeg), .int (xs (v4 + (2 : Int32)).toNatClampNeg)] [] (c_X11_parts (gL G) (gD G) (gY G) v1 (xs (v4 + (1 : Int32)).toNatClampNeg) (xs (v4 + (2 : Int32)).toNatClampNeg) Z I L _ hZ kv1 h) (gwV W_1458 W_1459 W_1460 W_28 W_1457) rfl ⟨rfl, fy_X11_parts⟩ ⟨by decide, by decide⟩ (c := 11) rfl (by decide) kv1 rfl rfl (Nat.le_of_ble_eq_true rfl) ⟨by show k9 + 0 + 0 ≤ 600002; omega, by show n9 + 0 + 0 ≤ 7302232; omega⟩ dL_law_1439 (fun v701 Z702 I703 L704 q705 => ?_)
  obtain ⟨rfl, r706, rfl, h⟩ := q705
  show jJ G 8 1442 [(0, .ref b), (1, .ref v1), (2, .ref v2), (3, .ref v3), (4, .int v4)] [.int r706] Z I703 L704 (k9 + 0) (n9 + 0)
  refine j_aload_n E dL_law_1442 2 rfl ?_
  refine j_aload_n E dL_law_1443 0 rfl ?_
  refine j_iload E dL_law_1444 4 rfl ?_
  refine j_iconst E (v := 1) dL_law_1446 (by decide) ?_
  refine j_iadd E dL_law_1447 ?_
  obtain ⟨o707, h⟩ := h
  refine j_sld E hX.1 hX.2.1 hX.2.2 o707 dL_law_1448 ?_
  refine j_aload_n E dL_law_1449 0 rfl ?_
  refine j_iload E dL_law_1450 4 rfl ?_
  refine j_iconst E (v := 2) dL_law_1452 (by decide) ?_
  refine j_iadd E dL_law_1453 ?_
  obtain ⟨o708, h⟩ := h
  refine j_sld E hX.1 hX.2.1 hX.2.2 o708 dL_law_1454 ?_
  refine j_callV E [.int (xs (v4 + (1 : Int32)).toNatClampNeg), .int (xs (v4 + (2 : Int32)).toNatClampNeg)] [.int r706] (c_X12_parts (gL G) (gD G) (gY G) v2 (xs (v4 + (1 : Int32)).toNatClampNeg) (xs (v4 + (2 : Int32)).toNatClampNeg) Z I703 L704 _ hZ kv2 h) (gwV W_1462 W_1463 W_1464 W_679 W_1461) rfl ⟨rfl, fy_X12_parts⟩ ⟨by decide, by decide⟩ (c := 12) rfl (by decide) kv2 rfl rfl (Nat.le_of_ble_eq_true rfl) ⟨by show k9 + 0 + 0 ≤ 600002; omega, by show n9 + 0 + 0 ≤ 7302232; omega⟩ dL_law_1455 (fun v709 Z710 I711 L712 q713 => ?_)
  obtain ⟨rfl, r714, rfl, h⟩ := q713
  show jJ G 8 1458 [(0, .ref b), (1, .ref v1), (2, .ref v2), (3, .ref v3), (4, .int v4)] [.int r714, .int r706] Z I711 L712 (k9 + 0) (n9 + 0)
  refine j_icmp_eq E 1816 dL_law_1458 (by decide) (fun c715 => ?_) (fun c715 => ?_)
  · have h := h.1 c715
    refine j_sub [0, 1, 2, 3, 4] rfl ?_
    refine j_widen (k9 := k9 + 27) (n9 := n9 + 600) (by show k9 + 0 ≤ k9 + 27; omega) (by show n9 + 0 ≤ n9 + 600; omega) ?_
    exact m_L_law_b1816 E hX hV hl0 hb9 hn9 K23 hK23 v1 v2 v3 v4 Z I711 L712 hZ hx kv1 kv2 kv3 h
  · have h := h.2 c715
    refine j_iconst E (v := 0) dL_law_1461 (by decide) ?_
    exact h.elim
set_option maxRecDepth 100000 in
def f_L_law_b1463 (xs : Nat → Int32) (Ls : Nat) (K23 : Nat → Nat → Nat → Int32 → jZ → jI → jL → Prop) (v1 : Nat) (v2 : Nat) (v3 : Nat) (v4 : Int32) (Z : jZ) (I : jI) (L : jL) : Prop := (vp_in (v4 + (1 : Int32)) Ls ∧ (vp_in (v4 + (2 : Int32)) Ls ∧ (vp_in (v4 + (3 : Int32)) Ls ∧ (vp_in (v4 + (4 : Int32)) Ls ∧ (vp_in (v4 + (5 : Int32)) Ls ∧ (f_X11_sells v1 (xs (v4 + (1 : Int32)).toNatClampNeg) (xs (v4 + (2 : Int32)).toNatClampNeg) (xs (v4 + (3 : Int32)).toNatClampNeg) (xs (v4 + (4 : Int32)).toNatClampNeg) (xs (v4 + (5 : Int32)).toNatClampNeg) Z I L (fun r726 I723 L724 => (vp_in (v4 + (1 : Int32)) Ls ∧ (vp_in (v4 + (2 : Int32)) Ls ∧ (vp_in (v4 + (3 : Int32)) Ls ∧ (vp_in (v4 + (4 : Int32)) Ls ∧ (vp_in (v4 + (5 : Int32)) Ls ∧ (f_X12_sells v2 (xs (v4 + (1 : Int32)).toNatClampNeg) (xs (v4 + (2 : Int32)).toNatClampNeg) (xs (v4 + (3 : Int32)).toNatClampNeg) (xs (v4 + (4 : Int32)).toNatClampNeg) (xs (v4 + (5 : Int32)).toNatClampNeg) Z I723 L724 (fun r737 I734 L735 => ((r726 = r737 → f_L_law_b1816 xs Ls K23 v1 v2 v3 v4 Z I734 L735) ∧ (¬ (r726 = r737) → False))))))))))))))))
set_option maxHeartbeats 4000000 in
set_option maxRecDepth 100000 in
theorem m_L_law_b1463 {G : jG} {Z0 : jZ} {xs : Nat → Int32} {Ls b k9 n9 : Nat} (E : jE G cL_law RL (Cond.arrayClass .byte :: jT) 8 (some .boolean) room_1 jRL) (hX : va_X b Ls xs (gS G) (gS G).heap ∧ b < (gS G).heap.size ∧ ¬ gA G b) (hV : jV (gA G) (gS G) (gS G).heap) (hl0 : (gL G).stackTraces = false) (hb9 : k9 + 27 ≤ 600002) (hn9 : n9 + 600 ≤ 7302232) (K23 : Nat → Nat → Nat → Int32 → jZ → jI → jL → Prop) (hK23 : ∀ (v1 : Nat) (v2 : Nat) (v3 : Nat) (v4 : Int32) (Z : jZ) (I : jI) (L : jL), SH Z → jext Z0 Z → jk Z v1 11 → jk Z v2 12 → jk Z v3 15 → K23 v1 v2 v3 v4 Z I L → jJ G 8 23 [(0, .ref b), (1, .ref v1), (2, .ref v2), (3, .ref v3), (4, .int v4)] [] Z I L (k9 + 27) (n9 + 600)) (v1 : Nat) (v2 : Nat) (v3 : Nat) (v4 : Int32) (Z : jZ) (I : jI) (L : jL) (hZ : SH Z) (hx : jext Z0 Z) (kv1 : jk Z v1 11) (kv2 : jk Z v2 12) (kv3 : jk Z v3 15) (h : f_L_law_b1463 xs Ls K23 v1 v2 v3 v4 Z I L) : jJ G 8 1463 [(0, .ref b), (1, .ref v1), (2, .ref v2), (3, .ref v3), (4, .int v4)] [] Z I L (k9 + 0) (n9 + 0) := by
  unfold f_L_law_b1463 at h
  refine j_aload_n E dL_law_1463 1 rfl ?_
  refine j_aload_n E dL_law_1464 0 rfl ?_
  refine j_iload E dL_law_1465 4 rfl ?_
  refine j_iconst E (v := 1) dL_law_1467 (by decide) ?_
  refine j_iadd E dL_law_1468 ?_
  obtain ⟨o716, h⟩ := h
  refine j_sld E hX.1 hX.2.1 hX.2.2 o716 dL_law_1469 ?_
  refine j_aload_n E dL_law_1470 0 rfl ?_
  refine j_iload E dL_law_1471 4 rfl ?_
  refine j_iconst E (v := 2) dL_law_1473 (by decide) ?_
  refine j_iadd E dL_law_1474 ?_
  obtain ⟨o717, h⟩ := h
  refine j_sld E hX.1 hX.2.1 hX.2.2 o717 dL_law_1475 ?_
  refine j_aload_n E dL_law_1476 0 rfl ?_
  refine j_iload E dL_law_1477 4 rfl ?_
  refine j_iconst E (v := 3) dL_law_1479 (by decide) ?_
  refine j_iadd E dL_law_1480 ?_
  obtain ⟨o718, h⟩ := h
  refine j_sld E hX.1 hX.2.1 hX.2.2 o718 dL_law_1481 ?_
  refine j_aload_n E dL_law_1482 0 rfl ?_
  refine j_iload E dL_law_1483 4 rfl ?_
  refine j_iconst E (v := 4) dL_law_1485 (by decide) ?_
  refine j_iadd E dL_law_1486 ?_
  obtain ⟨o719, h⟩ := h
  refine j_sld E hX.1 hX.2.1 hX.2.2 o719 dL_law_1487 ?_
  refine j_aload_n E dL_law_1488 0 rfl ?_
  refine j_iload E dL_law_1489 4 rfl ?_
  refine j_iconst E (v := 5) dL_law_1491 (by decide) ?_
  refine j_iadd E dL_law_1492 ?_
  obtain ⟨o720, h⟩ := h
  refine j_sld E hX.1 hX.2.1 hX.2.2 o720 dL_law_1493 ?_
  refine j_callV E [.int (xs (v4 + (1 : Int32)).toNatClampNeg), .int (xs (v4 + (2 : Int32)).toNatClampNeg), .int (xs (v4 + (3 : Int32)).toNatClampNeg), .int (xs (v4 + (4 : Int32)).toNatClampNeg), .int (xs (v4 + (5 : Int32)).toNatClampNeg)] [] (c_X11_sells (gL G) (gD G) (gY G) v1 (xs (v4 + (1 : Int32)).toNatClampNeg) (xs (v4 + (2 : Int32)).toNatClampNeg) (xs (v4 + (3 : Int32)).toNatClampNeg) (xs (v4 + (4 : Int32)).toNatClampNeg) (xs (v4 + (5 : Int32)).toNatClampNeg) Z I L _ hZ kv1 h) (gwV W_1466 W_1467 W_1468 W_28 W_1465) rfl ⟨rfl, fy_X11_sells⟩ ⟨by decide, by decide⟩ (c := 11) rfl (by decide) kv1 rfl rfl (Nat.le_of_ble_eq_true rfl) ⟨by show k9 + 0 + 0 ≤ 600002; omega, by show n9 + 0 + 0 ≤ 7302232; omega⟩ dL_law_1494 (fun v721 Z722 I723 L724 q725 => ?_)
  obtain ⟨rfl, r726, rfl, h⟩ := q725
  show jJ G 8 1497 [(0, .ref b), (1, .ref v1), (2, .ref v2), (3, .ref v3), (4, .int v4)] [.int r726] Z I723 L724 (k9 + 0) (n9 + 0)
  refine j_aload_n E dL_law_1497 2 rfl ?_
  refine j_aload_n E dL_law_1498 0 rfl ?_
  refine j_iload E dL_law_1499 4 rfl ?_
  refine j_iconst E (v := 1) dL_law_1501 (by decide) ?_
  refine j_iadd E dL_law_1502 ?_
  obtain ⟨o727, h⟩ := h
  refine j_sld E hX.1 hX.2.1 hX.2.2 o727 dL_law_1503 ?_
  refine j_aload_n E dL_law_1504 0 rfl ?_
  refine j_iload E dL_law_1505 4 rfl ?_
  refine j_iconst E (v := 2) dL_law_1507 (by decide) ?_
  refine j_iadd E dL_law_1508 ?_
  obtain ⟨o728, h⟩ := h
  refine j_sld E hX.1 hX.2.1 hX.2.2 o728 dL_law_1509 ?_
  refine j_aload_n E dL_law_1510 0 rfl ?_
  refine j_iload E dL_law_1511 4 rfl ?_
  refine j_iconst E (v := 3) dL_law_1513 (by decide) ?_
  refine j_iadd E dL_law_1514 ?_
  obtain ⟨o729, h⟩ := h
  refine j_sld E hX.1 hX.2.1 hX.2.2 o729 dL_law_1515 ?_
  refine j_aload_n E dL_law_1516 0 rfl ?_
  refine j_iload E dL_law_1517 4 rfl ?_
  refine j_iconst E (v := 4) dL_law_1519 (by decide) ?_
  refine j_iadd E dL_law_1520 ?_
  obtain ⟨o730, h⟩ := h
  refine j_sld E hX.1 hX.2.1 hX.2.2 o730 dL_law_1521 ?_
  refine j_aload_n E dL_law_1522 0 rfl ?_
  refine j_iload E dL_law_1523 4 rfl ?_
  refine j_iconst E (v := 5) dL_law_1525 (by decide) ?_
  refine j_iadd E dL_law_1526 ?_
  obtain ⟨o731, h⟩ := h
  refine j_sld E hX.1 hX.2.1 hX.2.2 o731 dL_law_1527 ?_
  refine j_callV E [.int (xs (v4 + (1 : Int32)).toNatClampNeg), .int (xs (v4 + (2 : Int32)).toNatClampNeg), .int (xs (v4 + (3 : Int32)).toNatClampNeg), .int (xs (v4 + (4 : Int32)).toNatClampNeg), .int (xs (v4 + (5 : Int32)).toNatClampNeg)] [.int r726] (c_X12_sells (gL G) (gD G) (gY G) v2 (xs (v4 + (1 : Int32)).toNatClampNeg) (xs (v4 + (2 : Int32)).toNatClampNeg) (xs (v4 + (3 : Int32)).toNatClampNeg) (xs (v4 + (4 : Int32)).toNatClampNeg) (xs (v4 + (5 : Int32)).toNatClampNeg) Z I723 L724 _ hZ kv2 h) (gwV W_1470 W_1471 W_1472 W_679 W_1469) rfl ⟨rfl, fy_X12_sells⟩ ⟨by decide, by decide⟩ (c := 12) rfl (by decide) kv2 rfl rfl (Nat.le_of_ble_eq_true rfl) ⟨by show k9 + 0 + 0 ≤ 600002; omega, by show n9 + 0 + 0 ≤ 7302232; omega⟩ dL_law_1528 (fun v732 Z733 I734 L735 q736 => ?_)
  obtain ⟨rfl, r737, rfl, h⟩ := q736
  show jJ G 8 1531 [(0, .ref b), (1, .ref v1), (2, .ref v2), (3, .ref v3), (4, .int v4)] [.int r737, .int r726] Z I734 L735 (k9 + 0) (n9 + 0)
  refine j_icmp_eq E 1816 dL_law_1531 (by decide) (fun c738 => ?_) (fun c738 => ?_)
  · have h := h.1 c738
    refine j_sub [0, 1, 2, 3, 4] rfl ?_
    refine j_widen (k9 := k9 + 27) (n9 := n9 + 600) (by show k9 + 0 ≤ k9 + 27; omega) (by show n9 + 0 ≤ n9 + 600; omega) ?_
    exact m_L_law_b1816 E hX hV hl0 hb9 hn9 K23 hK23 v1 v2 v3 v4 Z I734 L735 hZ hx kv1 kv2 kv3 h
  · have h := h.2 c738
    refine j_iconst E (v := 0) dL_law_1534 (by decide) ?_
    exact h.elim
set_option maxRecDepth 100000 in
def f_L_law_b1536 (xs : Nat → Int32) (Ls : Nat) (K23 : Nat → Nat → Nat → Int32 → jZ → jI → jL → Prop) (v1 : Nat) (v2 : Nat) (v3 : Nat) (v4 : Int32) (Z : jZ) (I : jI) (L : jL) : Prop := (vp_in (v4 + (1 : Int32)) Ls ∧ (vp_in (v4 + (2 : Int32)) Ls ∧ (f_X11_dies v1 (xs (v4 + (1 : Int32)).toNatClampNeg) (xs (v4 + (2 : Int32)).toNatClampNeg) Z I L (fun r746 I743 L744 => (vp_in (v4 + (1 : Int32)) Ls ∧ (vp_in (v4 + (2 : Int32)) Ls ∧ (f_X12_dies v2 (xs (v4 + (1 : Int32)).toNatClampNeg) (xs (v4 + (2 : Int32)).toNatClampNeg) Z I743 L744 (fun r754 I751 L752 => ((r746 = r754 → f_L_law_b1816 xs Ls K23 v1 v2 v3 v4 Z I751 L752) ∧ (¬ (r746 = r754) → False))))))))))
set_option maxHeartbeats 4000000 in
set_option maxRecDepth 100000 in
theorem m_L_law_b1536 {G : jG} {Z0 : jZ} {xs : Nat → Int32} {Ls b k9 n9 : Nat} (E : jE G cL_law RL (Cond.arrayClass .byte :: jT) 8 (some .boolean) room_1 jRL) (hX : va_X b Ls xs (gS G) (gS G).heap ∧ b < (gS G).heap.size ∧ ¬ gA G b) (hV : jV (gA G) (gS G) (gS G).heap) (hl0 : (gL G).stackTraces = false) (hb9 : k9 + 27 ≤ 600002) (hn9 : n9 + 600 ≤ 7302232) (K23 : Nat → Nat → Nat → Int32 → jZ → jI → jL → Prop) (hK23 : ∀ (v1 : Nat) (v2 : Nat) (v3 : Nat) (v4 : Int32) (Z : jZ) (I : jI) (L : jL), SH Z → jext Z0 Z → jk Z v1 11 → jk Z v2 12 → jk Z v3 15 → K23 v1 v2 v3 v4 Z I L → jJ G 8 23 [(0, .ref b), (1, .ref v1), (2, .ref v2), (3, .ref v3), (4, .int v4)] [] Z I L (k9 + 27) (n9 + 600)) (v1 : Nat) (v2 : Nat) (v3 : Nat) (v4 : Int32) (Z : jZ) (I : jI) (L : jL) (hZ : SH Z) (hx : jext Z0 Z) (kv1 : jk Z v1 11) (kv2 : jk Z v2 12) (kv3 : jk Z v3 15) (h : f_L_law_b1536 xs Ls K23 v1 v2 v3 v4 Z I L) : jJ G 8 1536 [(0, .ref b), (1, .ref v1), (2, .ref v2), (3, .ref v3), (4, .int v4)] [] Z I L (k9 + 0) (n9 + 0) := by
  unfold f_L_law_b1536 at h
  refine j_aload_n E dL_law_1536 1 rfl ?_
  refine j_aload_n E dL_law_1537 0 rfl ?_
  refine j_iload E dL_law_1538 4 rfl ?_
  refine j_iconst E (v := 1) dL_law_1540 (by decide) ?_
  refine j_iadd E dL_law_1541 ?_
  obtain ⟨o739, h⟩ := h
  refine j_sld E hX.1 hX.2.1 hX.2.2 o739 dL_law_1542 ?_
  refine j_aload_n E dL_law_1543 0 rfl ?_
  refine j_iload E dL_law_1544 4 rfl ?_
  refine j_iconst E (v := 2) dL_law_1546 (by decide) ?_
  refine j_iadd E dL_law_1547 ?_
  obtain ⟨o740, h⟩ := h
  refine j_sld E hX.1 hX.2.1 hX.2.2 o740 dL_law_1548 ?_
  refine j_callV E [.int (xs (v4 + (1 : Int32)).toNatClampNeg), .int (xs (v4 + (2 : Int32)).toNatClampNeg)] [] (c_X11_dies (gL G) (gD G) (gY G) v1 (xs (v4 + (1 : Int32)).toNatClampNeg) (xs (v4 + (2 : Int32)).toNatClampNeg) Z I L _ hZ kv1 h) (gwV W_1474 W_1475 W_1476 W_28 W_1473) rfl ⟨rfl, fy_X11_dies⟩ ⟨by decide, by decide⟩ (c := 11) rfl (by decide) kv1 rfl rfl (Nat.le_of_ble_eq_true rfl) ⟨by show k9 + 0 + 0 ≤ 600002; omega, by show n9 + 0 + 0 ≤ 7302232; omega⟩ dL_law_1549 (fun v741 Z742 I743 L744 q745 => ?_)
  obtain ⟨rfl, r746, rfl, h⟩ := q745
  show jJ G 8 1552 [(0, .ref b), (1, .ref v1), (2, .ref v2), (3, .ref v3), (4, .int v4)] [.int r746] Z I743 L744 (k9 + 0) (n9 + 0)
  refine j_aload_n E dL_law_1552 2 rfl ?_
  refine j_aload_n E dL_law_1553 0 rfl ?_
  refine j_iload E dL_law_1554 4 rfl ?_
  refine j_iconst E (v := 1) dL_law_1556 (by decide) ?_
  refine j_iadd E dL_law_1557 ?_
  obtain ⟨o747, h⟩ := h
  refine j_sld E hX.1 hX.2.1 hX.2.2 o747 dL_law_1558 ?_
  refine j_aload_n E dL_law_1559 0 rfl ?_
  refine j_iload E dL_law_1560 4 rfl ?_
  refine j_iconst E (v := 2) dL_law_1562 (by decide) ?_
  refine j_iadd E dL_law_1563 ?_
  obtain ⟨o748, h⟩ := h
  refine j_sld E hX.1 hX.2.1 hX.2.2 o748 dL_law_1564 ?_
  refine j_callV E [.int (xs (v4 + (1 : Int32)).toNatClampNeg), .int (xs (v4 + (2 : Int32)).toNatClampNeg)] [.int r746] (c_X12_dies (gL G) (gD G) (gY G) v2 (xs (v4 + (1 : Int32)).toNatClampNeg) (xs (v4 + (2 : Int32)).toNatClampNeg) Z I743 L744 _ hZ kv2 h) (gwV W_1478 W_1479 W_1480 W_679 W_1477) rfl ⟨rfl, fy_X12_dies⟩ ⟨by decide, by decide⟩ (c := 12) rfl (by decide) kv2 rfl rfl (Nat.le_of_ble_eq_true rfl) ⟨by show k9 + 0 + 0 ≤ 600002; omega, by show n9 + 0 + 0 ≤ 7302232; omega⟩ dL_law_1565 (fun v749 Z750 I751 L752 q753 => ?_)
  obtain ⟨rfl, r754, rfl, h⟩ := q753
  show jJ G 8 1568 [(0, .ref b), (1, .ref v1), (2, .ref v2), (3, .ref v3), (4, .int v4)] [.int r754, .int r746] Z I751 L752 (k9 + 0) (n9 + 0)
  refine j_icmp_eq E 1816 dL_law_1568 (by decide) (fun c755 => ?_) (fun c755 => ?_)
  · have h := h.1 c755
    refine j_sub [0, 1, 2, 3, 4] rfl ?_
    refine j_widen (k9 := k9 + 27) (n9 := n9 + 600) (by show k9 + 0 ≤ k9 + 27; omega) (by show n9 + 0 ≤ n9 + 600; omega) ?_
    exact m_L_law_b1816 E hX hV hl0 hb9 hn9 K23 hK23 v1 v2 v3 v4 Z I751 L752 hZ hx kv1 kv2 kv3 h
  · have h := h.2 c755
    refine j_iconst E (v := 0) dL_law_1571 (by decide) ?_
    exact h.elim
set_option maxRecDepth 100000 in
def f_L_law_b1573 (xs : Nat → Int32) (Ls : Nat) (K23 : Nat → Nat → Nat → Int32 → jZ → jI → jL → Prop) (v1 : Nat) (v2 : Nat) (v3 : Nat) (v4 : Int32) (Z : jZ) (I : jI) (L : jL) : Prop := (f_X11_undo v1 Z I L (fun r761 I758 L759 => (f_X12_undo v2 Z I758 L759 (fun r767 I764 L765 => ((r761 = r767 → f_L_law_b1816 xs Ls K23 v1 v2 v3 v4 Z I764 L765) ∧ (¬ (r761 = r767) → False))))))
set_option maxHeartbeats 4000000 in
set_option maxRecDepth 100000 in
theorem m_L_law_b1573 {G : jG} {Z0 : jZ} {xs : Nat → Int32} {Ls b k9 n9 : Nat} (E : jE G cL_law RL (Cond.arrayClass .byte :: jT) 8 (some .boolean) room_1 jRL) (hX : va_X b Ls xs (gS G) (gS G).heap ∧ b < (gS G).heap.size ∧ ¬ gA G b) (hV : jV (gA G) (gS G) (gS G).heap) (hl0 : (gL G).stackTraces = false) (hb9 : k9 + 27 ≤ 600002) (hn9 : n9 + 600 ≤ 7302232) (K23 : Nat → Nat → Nat → Int32 → jZ → jI → jL → Prop) (hK23 : ∀ (v1 : Nat) (v2 : Nat) (v3 : Nat) (v4 : Int32) (Z : jZ) (I : jI) (L : jL), SH Z → jext Z0 Z → jk Z v1 11 → jk Z v2 12 → jk Z v3 15 → K23 v1 v2 v3 v4 Z I L → jJ G 8 23 [(0, .ref b), (1, .ref v1), (2, .ref v2), (3, .ref v3), (4, .int v4)] [] Z I L (k9 + 27) (n9 + 600)) (v1 : Nat) (v2 : Nat) (v3 : Nat) (v4 : Int32) (Z : jZ) (I : jI) (L : jL) (hZ : SH Z) (hx : jext Z0 Z) (kv1 : jk Z v1 11) (kv2 : jk Z v2 12) (kv3 : jk Z v3 15) (h : f_L_law_b1573 xs Ls K23 v1 v2 v3 v4 Z I L) : jJ G 8 1573 [(0, .ref b), (1, .ref v1), (2, .ref v2), (3, .ref v3), (4, .int v4)] [] Z I L (k9 + 0) (n9 + 0) := by
  unfold f_L_law_b1573 at h
  refine j_aload_n E dL_law_1573 1 rfl ?_
  refine j_callV E [] [] (c_X11_undo (gL G) (gD G) (gY G) v1 Z I L _ hZ kv1 h) (gwV W_1482 W_1483 W_1484 W_28 W_1481) rfl ⟨rfl, fy_X11_undo⟩ ⟨by decide, by decide⟩ (c := 11) rfl (by decide) kv1 rfl rfl (Nat.le_of_ble_eq_true rfl) ⟨by show k9 + 0 + 0 ≤ 600002; omega, by show n9 + 0 + 0 ≤ 7302232; omega⟩ dL_law_1574 (fun v756 Z757 I758 L759 q760 => ?_)
  obtain ⟨rfl, r761, rfl, h⟩ := q760
  show jJ G 8 1577 [(0, .ref b), (1, .ref v1), (2, .ref v2), (3, .ref v3), (4, .int v4)] [.int r761] Z I758 L759 (k9 + 0) (n9 + 0)
  refine j_aload_n E dL_law_1577 2 rfl ?_
  refine j_callV E [] [.int r761] (c_X12_undo (gL G) (gD G) (gY G) v2 Z I758 L759 _ hZ kv2 h) (gwV W_1486 W_1487 W_1488 W_679 W_1485) rfl ⟨rfl, fy_X12_undo⟩ ⟨by decide, by decide⟩ (c := 12) rfl (by decide) kv2 rfl rfl (Nat.le_of_ble_eq_true rfl) ⟨by show k9 + 0 + 0 ≤ 600002; omega, by show n9 + 0 + 0 ≤ 7302232; omega⟩ dL_law_1578 (fun v762 Z763 I764 L765 q766 => ?_)
  obtain ⟨rfl, r767, rfl, h⟩ := q766
  show jJ G 8 1581 [(0, .ref b), (1, .ref v1), (2, .ref v2), (3, .ref v3), (4, .int v4)] [.int r767, .int r761] Z I764 L765 (k9 + 0) (n9 + 0)
  refine j_icmp_eq E 1816 dL_law_1581 (by decide) (fun c768 => ?_) (fun c768 => ?_)
  · have h := h.1 c768
    refine j_sub [0, 1, 2, 3, 4] rfl ?_
    refine j_widen (k9 := k9 + 27) (n9 := n9 + 600) (by show k9 + 0 ≤ k9 + 27; omega) (by show n9 + 0 ≤ n9 + 600; omega) ?_
    exact m_L_law_b1816 E hX hV hl0 hb9 hn9 K23 hK23 v1 v2 v3 v4 Z I764 L765 hZ hx kv1 kv2 kv3 h
  · have h := h.2 c768
    refine j_iconst E (v := 0) dL_law_1584 (by decide) ?_
    exact h.elim
set_option maxRecDepth 100000 in
def f_L_law_b1586 (xs : Nat → Int32) (Ls : Nat) (K23 : Nat → Nat → Nat → Int32 → jZ → jI → jL → Prop) (v1 : Nat) (v2 : Nat) (v3 : Nat) (v4 : Int32) (Z : jZ) (I : jI) (L : jL) : Prop := (vp_in (v4 + (1 : Int32)) Ls ∧ (f_X11_rail v1 (xs (v4 + (1 : Int32)).toNatClampNeg) Z I L (fun r775 I772 L773 => (vp_in (v4 + (1 : Int32)) Ls ∧ (f_X12_rail v2 (xs (v4 + (1 : Int32)).toNatClampNeg) Z I772 L773 (fun r782 I779 L780 => ((r775 = r782 → f_L_law_b1816 xs Ls K23 v1 v2 v3 v4 Z I779 L780) ∧ (¬ (r775 = r782) → False))))))))
set_option maxHeartbeats 4000000 in
set_option maxRecDepth 100000 in
theorem m_L_law_b1586 {G : jG} {Z0 : jZ} {xs : Nat → Int32} {Ls b k9 n9 : Nat} (E : jE G cL_law RL (Cond.arrayClass .byte :: jT) 8 (some .boolean) room_1 jRL) (hX : va_X b Ls xs (gS G) (gS G).heap ∧ b < (gS G).heap.size ∧ ¬ gA G b) (hV : jV (gA G) (gS G) (gS G).heap) (hl0 : (gL G).stackTraces = false) (hb9 : k9 + 27 ≤ 600002) (hn9 : n9 + 600 ≤ 7302232) (K23 : Nat → Nat → Nat → Int32 → jZ → jI → jL → Prop) (hK23 : ∀ (v1 : Nat) (v2 : Nat) (v3 : Nat) (v4 : Int32) (Z : jZ) (I : jI) (L : jL), SH Z → jext Z0 Z → jk Z v1 11 → jk Z v2 12 → jk Z v3 15 → K23 v1 v2 v3 v4 Z I L → jJ G 8 23 [(0, .ref b), (1, .ref v1), (2, .ref v2), (3, .ref v3), (4, .int v4)] [] Z I L (k9 + 27) (n9 + 600)) (v1 : Nat) (v2 : Nat) (v3 : Nat) (v4 : Int32) (Z : jZ) (I : jI) (L : jL) (hZ : SH Z) (hx : jext Z0 Z) (kv1 : jk Z v1 11) (kv2 : jk Z v2 12) (kv3 : jk Z v3 15) (h : f_L_law_b1586 xs Ls K23 v1 v2 v3 v4 Z I L) : jJ G 8 1586 [(0, .ref b), (1, .ref v1), (2, .ref v2), (3, .ref v3), (4, .int v4)] [] Z I L (k9 + 0) (n9 + 0) := by
  unfold f_L_law_b1586 at h
  refine j_aload_n E dL_law_1586 1 rfl ?_
  refine j_aload_n E dL_law_1587 0 rfl ?_
  refine j_iload E dL_law_1588 4 rfl ?_
  refine j_iconst E (v := 1) dL_law_1590 (by decide) ?_
  refine j_iadd E dL_law_1591 ?_
  obtain ⟨o769, h⟩ := h
  refine j_sld E hX.1 hX.2.1 hX.2.2 o769 dL_law_1592 ?_
  refine j_callV E [.int (xs (v4 + (1 : Int32)).toNatClampNeg)] [] (c_X11_rail (gL G) (gD G) (gY G) v1 (xs (v4 + (1 : Int32)).toNatClampNeg) Z I L _ hZ kv1 h) (gwV W_1490 W_1491 W_1492 W_28 W_1489) rfl ⟨rfl, fy_X11_rail⟩ ⟨by decide, by decide⟩ (c := 11) rfl (by decide) kv1 rfl rfl (Nat.le_of_ble_eq_true rfl) ⟨by show k9 + 0 + 0 ≤ 600002; omega, by show n9 + 0 + 0 ≤ 7302232; omega⟩ dL_law_1593 (fun v770 Z771 I772 L773 q774 => ?_)
  obtain ⟨rfl, r775, rfl, h⟩ := q774
  show jJ G 8 1596 [(0, .ref b), (1, .ref v1), (2, .ref v2), (3, .ref v3), (4, .int v4)] [.int r775] Z I772 L773 (k9 + 0) (n9 + 0)
  refine j_aload_n E dL_law_1596 2 rfl ?_
  refine j_aload_n E dL_law_1597 0 rfl ?_
  refine j_iload E dL_law_1598 4 rfl ?_
  refine j_iconst E (v := 1) dL_law_1600 (by decide) ?_
  refine j_iadd E dL_law_1601 ?_
  obtain ⟨o776, h⟩ := h
  refine j_sld E hX.1 hX.2.1 hX.2.2 o776 dL_law_1602 ?_
  refine j_callV E [.int (xs (v4 + (1 : Int32)).toNatClampNeg)] [.int r775] (c_X12_rail (gL G) (gD G) (gY G) v2 (xs (v4 + (1 : Int32)).toNatClampNeg) Z I772 L773 _ hZ kv2 h) (gwV W_1494 W_1495 W_1496 W_679 W_1493) rfl ⟨rfl, fy_X12_rail⟩ ⟨by decide, by decide⟩ (c := 12) rfl (by decide) kv2 rfl rfl (Nat.le_of_ble_eq_true rfl) ⟨by show k9 + 0 + 0 ≤ 600002; omega, by show n9 + 0 + 0 ≤ 7302232; omega⟩ dL_law_1603 (fun v777 Z778 I779 L780 q781 => ?_)
  obtain ⟨rfl, r782, rfl, h⟩ := q781
  show jJ G 8 1606 [(0, .ref b), (1, .ref v1), (2, .ref v2), (3, .ref v3), (4, .int v4)] [.int r782, .int r775] Z I779 L780 (k9 + 0) (n9 + 0)
  refine j_icmp_eq E 1816 dL_law_1606 (by decide) (fun c783 => ?_) (fun c783 => ?_)
  · have h := h.1 c783
    refine j_sub [0, 1, 2, 3, 4] rfl ?_
    refine j_widen (k9 := k9 + 27) (n9 := n9 + 600) (by show k9 + 0 ≤ k9 + 27; omega) (by show n9 + 0 ≤ n9 + 600; omega) ?_
    exact m_L_law_b1816 E hX hV hl0 hb9 hn9 K23 hK23 v1 v2 v3 v4 Z I779 L780 hZ hx kv1 kv2 kv3 h
  · have h := h.2 c783
    refine j_iconst E (v := 0) dL_law_1609 (by decide) ?_
    exact h.elim
set_option maxRecDepth 100000 in
def f_L_law_b1611 (xs : Nat → Int32) (Ls : Nat) (K23 : Nat → Nat → Nat → Int32 → jZ → jI → jL → Prop) (v1 : Nat) (v2 : Nat) (v3 : Nat) (v4 : Int32) (Z : jZ) (I : jI) (L : jL) : Prop := (vp_in (v4 + (1 : Int32)) Ls ∧ (vp_in (v4 + (2 : Int32)) Ls ∧ (f_X11_rules v1 (xs (v4 + (1 : Int32)).toNatClampNeg) (xs (v4 + (2 : Int32)).toNatClampNeg) Z I L (fun r791 I788 L789 => (vp_in (v4 + (1 : Int32)) Ls ∧ (vp_in (v4 + (2 : Int32)) Ls ∧ (f_X12_rules v2 (xs (v4 + (1 : Int32)).toNatClampNeg) (xs (v4 + (2 : Int32)).toNatClampNeg) Z I788 L789 (fun r799 I796 L797 => ((r791 = r799 → f_L_law_b1816 xs Ls K23 v1 v2 v3 v4 Z I796 L797) ∧ (¬ (r791 = r799) → False))))))))))
set_option maxHeartbeats 4000000 in
set_option maxRecDepth 100000 in
theorem m_L_law_b1611 {G : jG} {Z0 : jZ} {xs : Nat → Int32} {Ls b k9 n9 : Nat} (E : jE G cL_law RL (Cond.arrayClass .byte :: jT) 8 (some .boolean) room_1 jRL) (hX : va_X b Ls xs (gS G) (gS G).heap ∧ b < (gS G).heap.size ∧ ¬ gA G b) (hV : jV (gA G) (gS G) (gS G).heap) (hl0 : (gL G).stackTraces = false) (hb9 : k9 + 27 ≤ 600002) (hn9 : n9 + 600 ≤ 7302232) (K23 : Nat → Nat → Nat → Int32 → jZ → jI → jL → Prop) (hK23 : ∀ (v1 : Nat) (v2 : Nat) (v3 : Nat) (v4 : Int32) (Z : jZ) (I : jI) (L : jL), SH Z → jext Z0 Z → jk Z v1 11 → jk Z v2 12 → jk Z v3 15 → K23 v1 v2 v3 v4 Z I L → jJ G 8 23 [(0, .ref b), (1, .ref v1), (2, .ref v2), (3, .ref v3), (4, .int v4)] [] Z I L (k9 + 27) (n9 + 600)) (v1 : Nat) (v2 : Nat) (v3 : Nat) (v4 : Int32) (Z : jZ) (I : jI) (L : jL) (hZ : SH Z) (hx : jext Z0 Z) (kv1 : jk Z v1 11) (kv2 : jk Z v2 12) (kv3 : jk Z v3 15) (h : f_L_law_b1611 xs Ls K23 v1 v2 v3 v4 Z I L) : jJ G 8 1611 [(0, .ref b), (1, .ref v1), (2, .ref v2), (3, .ref v3), (4, .int v4)] [] Z I L (k9 + 0) (n9 + 0) := by
  unfold f_L_law_b1611 at h
  refine j_aload_n E dL_law_1611 1 rfl ?_
  refine j_aload_n E dL_law_1612 0 rfl ?_
  refine j_iload E dL_law_1613 4 rfl ?_
  refine j_iconst E (v := 1) dL_law_1615 (by decide) ?_
  refine j_iadd E dL_law_1616 ?_
  obtain ⟨o784, h⟩ := h
  refine j_sld E hX.1 hX.2.1 hX.2.2 o784 dL_law_1617 ?_
  refine j_aload_n E dL_law_1618 0 rfl ?_
  refine j_iload E dL_law_1619 4 rfl ?_
  refine j_iconst E (v := 2) dL_law_1621 (by decide) ?_
  refine j_iadd E dL_law_1622 ?_
  obtain ⟨o785, h⟩ := h
  refine j_sld E hX.1 hX.2.1 hX.2.2 o785 dL_law_1623 ?_
  refine j_callV E [.int (xs (v4 + (1 : Int32)).toNatClampNeg), .int (xs (v4 + (2 : Int32)).toNatClampNeg)] [] (c_X11_rules (gL G) (gD G) (gY G) v1 (xs (v4 + (1 : Int32)).toNatClampNeg) (xs (v4 + (2 : Int32)).toNatClampNeg) Z I L _ hZ kv1 h) (gwV W_1498 W_1499 W_1500 W_28 W_1497) rfl ⟨rfl, fy_X11_rules⟩ ⟨by decide, by decide⟩ (c := 11) rfl (by decide) kv1 rfl rfl (Nat.le_of_ble_eq_true rfl) ⟨by show k9 + 0 + 0 ≤ 600002; omega, by show n9 + 0 + 0 ≤ 7302232; omega⟩ dL_law_1624 (fun v786 Z787 I788 L789 q790 => ?_)
  obtain ⟨rfl, r791, rfl, h⟩ := q790
  show jJ G 8 1627 [(0, .ref b), (1, .ref v1), (2, .ref v2), (3, .ref v3), (4, .int v4)] [.int r791] Z I788 L789 (k9 + 0) (n9 + 0)
  refine j_aload_n E dL_law_1627 2 rfl ?_
  refine j_aload_n E dL_law_1628 0 rfl ?_
  refine j_iload E dL_law_1629 4 rfl ?_
  refine j_iconst E (v := 1) dL_law_1631 (by decide) ?_
  refine j_iadd E dL_law_1632 ?_
  obtain ⟨o792, h⟩ := h
  refine j_sld E hX.1 hX.2.1 hX.2.2 o792 dL_law_1633 ?_
  refine j_aload_n E dL_law_1634 0 rfl ?_
  refine j_iload E dL_law_1635 4 rfl ?_
  refine j_iconst E (v := 2) dL_law_1637 (by decide) ?_
  refine j_iadd E dL_law_1638 ?_
  obtain ⟨o793, h⟩ := h
  refine j_sld E hX.1 hX.2.1 hX.2.2 o793 dL_law_1639 ?_
  refine j_callV E [.int (xs (v4 + (1 : Int32)).toNatClampNeg), .int (xs (v4 + (2 : Int32)).toNatClampNeg)] [.int r791] (c_X12_rules (gL G) (gD G) (gY G) v2 (xs (v4 + (1 : Int32)).toNatClampNeg) (xs (v4 + (2 : Int32)).toNatClampNeg) Z I788 L789 _ hZ kv2 h) (gwV W_1502 W_1503 W_1504 W_679 W_1501) rfl ⟨rfl, fy_X12_rules⟩ ⟨by decide, by decide⟩ (c := 12) rfl (by decide) kv2 rfl rfl (Nat.le_of_ble_eq_true rfl) ⟨by show k9 + 0 + 0 ≤ 600002; omega, by show n9 + 0 + 0 ≤ 7302232; omega⟩ dL_law_1640 (fun v794 Z795 I796 L797 q798 => ?_)
  obtain ⟨rfl, r799, rfl, h⟩ := q798
  show jJ G 8 1643 [(0, .ref b), (1, .ref v1), (2, .ref v2), (3, .ref v3), (4, .int v4)] [.int r799, .int r791] Z I796 L797 (k9 + 0) (n9 + 0)
  refine j_icmp_eq E 1816 dL_law_1643 (by decide) (fun c800 => ?_) (fun c800 => ?_)
  · have h := h.1 c800
    refine j_sub [0, 1, 2, 3, 4] rfl ?_
    refine j_widen (k9 := k9 + 27) (n9 := n9 + 600) (by show k9 + 0 ≤ k9 + 27; omega) (by show n9 + 0 ≤ n9 + 600; omega) ?_
    exact m_L_law_b1816 E hX hV hl0 hb9 hn9 K23 hK23 v1 v2 v3 v4 Z I796 L797 hZ hx kv1 kv2 kv3 h
  · have h := h.2 c800
    refine j_iconst E (v := 0) dL_law_1646 (by decide) ?_
    exact h.elim
set_option maxRecDepth 100000 in
def f_L_law_b1648 (xs : Nat → Int32) (Ls : Nat) (K23 : Nat → Nat → Nat → Int32 → jZ → jI → jL → Prop) (v1 : Nat) (v2 : Nat) (v3 : Nat) (v4 : Int32) (Z : jZ) (I : jI) (L : jL) : Prop := (vp_in (v4 + (1 : Int32)) Ls ∧ (f_X11_feast v1 (xs (v4 + (1 : Int32)).toNatClampNeg) Z I L (fun r807 Z803 I804 L805 => (vp_in (v4 + (1 : Int32)) Ls ∧ (f_X12_feast v2 (xs (v4 + (1 : Int32)).toNatClampNeg) Z803 I804 L805 (fun r817 Z813 I814 L815 => ((r807 = r817 → f_L_law_b1816 xs Ls K23 v1 v2 v3 v4 Z813 I814 L815) ∧ (¬ (r807 = r817) → False))))))))
set_option maxHeartbeats 4000000 in
set_option maxRecDepth 100000 in
theorem m_L_law_b1648 {G : jG} {Z0 : jZ} {xs : Nat → Int32} {Ls b k9 n9 : Nat} (E : jE G cL_law RL (Cond.arrayClass .byte :: jT) 8 (some .boolean) room_1 jRL) (hX : va_X b Ls xs (gS G) (gS G).heap ∧ b < (gS G).heap.size ∧ ¬ gA G b) (hV : jV (gA G) (gS G) (gS G).heap) (hl0 : (gL G).stackTraces = false) (hb9 : k9 + 27 ≤ 600002) (hn9 : n9 + 600 ≤ 7302232) (K23 : Nat → Nat → Nat → Int32 → jZ → jI → jL → Prop) (hK23 : ∀ (v1 : Nat) (v2 : Nat) (v3 : Nat) (v4 : Int32) (Z : jZ) (I : jI) (L : jL), SH Z → jext Z0 Z → jk Z v1 11 → jk Z v2 12 → jk Z v3 15 → K23 v1 v2 v3 v4 Z I L → jJ G 8 23 [(0, .ref b), (1, .ref v1), (2, .ref v2), (3, .ref v3), (4, .int v4)] [] Z I L (k9 + 27) (n9 + 600)) (v1 : Nat) (v2 : Nat) (v3 : Nat) (v4 : Int32) (Z : jZ) (I : jI) (L : jL) (hZ : SH Z) (hx : jext Z0 Z) (kv1 : jk Z v1 11) (kv2 : jk Z v2 12) (kv3 : jk Z v3 15) (h : f_L_law_b1648 xs Ls K23 v1 v2 v3 v4 Z I L) : jJ G 8 1648 [(0, .ref b), (1, .ref v1), (2, .ref v2), (3, .ref v3), (4, .int v4)] [] Z I L (k9 + 0) (n9 + 0) := by
  unfold f_L_law_b1648 at h
  refine j_aload_n E dL_law_1648 1 rfl ?_
  refine j_aload_n E dL_law_1649 0 rfl ?_
  refine j_iload E dL_law_1650 4 rfl ?_
  refine j_iconst E (v := 1) dL_law_1652 (by decide) ?_
  refine j_iadd E dL_law_1653 ?_
  obtain ⟨o801, h⟩ := h
  refine j_sld E hX.1 hX.2.1 hX.2.2 o801 dL_law_1654 ?_
  refine j_callV E [.int (xs (v4 + (1 : Int32)).toNatClampNeg)] [] (c_X11_feast (gL G) (gD G) (gY G) v1 (xs (v4 + (1 : Int32)).toNatClampNeg) Z I L _ hZ kv1 h) (gwV W_1506 W_1507 W_1508 W_28 W_1505) rfl ⟨rfl, fy_X11_feast⟩ ⟨by decide, by decide⟩ (c := 11) rfl (by decide) kv1 rfl rfl (Nat.le_of_ble_eq_true rfl) ⟨by show k9 + 0 + 0 ≤ 600002; omega, by show n9 + 0 + 0 ≤ 7302232; omega⟩ dL_law_1655 (fun v802 Z803 I804 L805 q806 => ?_)
  obtain ⟨yZ803, hZ803, r807, rfl, h⟩ := q806
  have hZ := hZ803
  have hx : jext Z0 Z803 := jext_trans hx yZ803
  have k808 := (yZ803 _ _ kv1).1
  have k809 := (yZ803 _ _ kv2).1
  have k810 := (yZ803 _ _ kv3).1
  show jJ G 8 1658 [(0, .ref b), (1, .ref v1), (2, .ref v2), (3, .ref v3), (4, .int v4)] [.int r807] Z803 I804 L805 (k9 + 0) (n9 + 0)
  refine j_aload_n E dL_law_1658 2 rfl ?_
  refine j_aload_n E dL_law_1659 0 rfl ?_
  refine j_iload E dL_law_1660 4 rfl ?_
  refine j_iconst E (v := 1) dL_law_1662 (by decide) ?_
  refine j_iadd E dL_law_1663 ?_
  obtain ⟨o811, h⟩ := h
  refine j_sld E hX.1 hX.2.1 hX.2.2 o811 dL_law_1664 ?_
  refine j_callV E [.int (xs (v4 + (1 : Int32)).toNatClampNeg)] [.int r807] (c_X12_feast (gL G) (gD G) (gY G) v2 (xs (v4 + (1 : Int32)).toNatClampNeg) Z803 I804 L805 _ hZ k809 h) (gwV W_1510 W_1511 W_1512 W_679 W_1509) rfl ⟨rfl, fy_X12_feast⟩ ⟨by decide, by decide⟩ (c := 12) rfl (by decide) k809 rfl rfl (Nat.le_of_ble_eq_true rfl) ⟨by show k9 + 0 + 0 ≤ 600002; omega, by show n9 + 0 + 0 ≤ 7302232; omega⟩ dL_law_1665 (fun v812 Z813 I814 L815 q816 => ?_)
  obtain ⟨yZ813, hZ813, r817, rfl, h⟩ := q816
  have hZ := hZ813
  have hx : jext Z0 Z813 := jext_trans hx yZ813
  have k818 := (yZ813 _ _ k808).1
  have k819 := (yZ813 _ _ k809).1
  have k820 := (yZ813 _ _ k810).1
  show jJ G 8 1668 [(0, .ref b), (1, .ref v1), (2, .ref v2), (3, .ref v3), (4, .int v4)] [.int r817, .int r807] Z813 I814 L815 (k9 + 0) (n9 + 0)
  refine j_icmp_eq E 1816 dL_law_1668 (by decide) (fun c821 => ?_) (fun c821 => ?_)
  · have h := h.1 c821
    refine j_sub [0, 1, 2, 3, 4] rfl ?_
    refine j_widen (k9 := k9 + 27) (n9 := n9 + 600) (by show k9 + 0 ≤ k9 + 27; omega) (by show n9 + 0 ≤ n9 + 600; omega) ?_
    exact m_L_law_b1816 E hX hV hl0 hb9 hn9 K23 hK23 v1 v2 v3 v4 Z813 I814 L815 hZ hx k818 k819 k820 h
  · have h := h.2 c821
    refine j_iconst E (v := 0) dL_law_1671 (by decide) ?_
    exact h.elim
set_option maxRecDepth 100000 in
def f_L_law_b1673 (xs : Nat → Int32) (Ls : Nat) (K23 : Nat → Nat → Nat → Int32 → jZ → jI → jL → Prop) (v1 : Nat) (v2 : Nat) (v3 : Nat) (v4 : Int32) (Z : jZ) (I : jI) (L : jL) : Prop := (f_X11_jam v1 Z I L (fun r827 Z823 I824 L825 => (f_X12_jam v2 Z823 I824 L825 (fun r836 Z832 I833 L834 => ((r827 = r836 → f_L_law_b1816 xs Ls K23 v1 v2 v3 v4 Z832 I833 L834) ∧ (¬ (r827 = r836) → False))))))
set_option maxHeartbeats 4000000 in
set_option maxRecDepth 100000 in
theorem m_L_law_b1673 {G : jG} {Z0 : jZ} {xs : Nat → Int32} {Ls b k9 n9 : Nat} (E : jE G cL_law RL (Cond.arrayClass .byte :: jT) 8 (some .boolean) room_1 jRL) (hX : va_X b Ls xs (gS G) (gS G).heap ∧ b < (gS G).heap.size ∧ ¬ gA G b) (hV : jV (gA G) (gS G) (gS G).heap) (hl0 : (gL G).stackTraces = false) (hb9 : k9 + 27 ≤ 600002) (hn9 : n9 + 600 ≤ 7302232) (K23 : Nat → Nat → Nat → Int32 → jZ → jI → jL → Prop) (hK23 : ∀ (v1 : Nat) (v2 : Nat) (v3 : Nat) (v4 : Int32) (Z : jZ) (I : jI) (L : jL), SH Z → jext Z0 Z → jk Z v1 11 → jk Z v2 12 → jk Z v3 15 → K23 v1 v2 v3 v4 Z I L → jJ G 8 23 [(0, .ref b), (1, .ref v1), (2, .ref v2), (3, .ref v3), (4, .int v4)] [] Z I L (k9 + 27) (n9 + 600)) (v1 : Nat) (v2 : Nat) (v3 : Nat) (v4 : Int32) (Z : jZ) (I : jI) (L : jL) (hZ : SH Z) (hx : jext Z0 Z) (kv1 : jk Z v1 11) (kv2 : jk Z v2 12) (kv3 : jk Z v3 15) (h : f_L_law_b1673 xs Ls K23 v1 v2 v3 v4 Z I L) : jJ G 8 1673 [(0, .ref b), (1, .ref v1), (2, .ref v2), (3, .ref v3), (4, .int v4)] [] Z I L (k9 + 0) (n9 + 0) := by
  unfold f_L_law_b1673 at h
  refine j_aload_n E dL_law_1673 1 rfl ?_
  refine j_callV E [] [] (c_X11_jam (gL G) (gD G) (gY G) v1 Z I L _ hZ kv1 h) (gwV W_1514 W_1515 W_1516 W_28 W_1513) rfl ⟨rfl, fy_X11_jam⟩ ⟨by decide, by decide⟩ (c := 11) rfl (by decide) kv1 rfl rfl (Nat.le_of_ble_eq_true rfl) ⟨by show k9 + 0 + 0 ≤ 600002; omega, by show n9 + 0 + 0 ≤ 7302232; omega⟩ dL_law_1674 (fun v822 Z823 I824 L825 q826 => ?_)
  obtain ⟨yZ823, hZ823, r827, rfl, h⟩ := q826
  have hZ := hZ823
  have hx : jext Z0 Z823 := jext_trans hx yZ823
  have k828 := (yZ823 _ _ kv1).1
  have k829 := (yZ823 _ _ kv2).1
  have k830 := (yZ823 _ _ kv3).1
  show jJ G 8 1677 [(0, .ref b), (1, .ref v1), (2, .ref v2), (3, .ref v3), (4, .int v4)] [.int r827] Z823 I824 L825 (k9 + 0) (n9 + 0)
  refine j_aload_n E dL_law_1677 2 rfl ?_
  refine j_callV E [] [.int r827] (c_X12_jam (gL G) (gD G) (gY G) v2 Z823 I824 L825 _ hZ k829 h) (gwV W_1518 W_1519 W_1520 W_679 W_1517) rfl ⟨rfl, fy_X12_jam⟩ ⟨by decide, by decide⟩ (c := 12) rfl (by decide) k829 rfl rfl (Nat.le_of_ble_eq_true rfl) ⟨by show k9 + 0 + 0 ≤ 600002; omega, by show n9 + 0 + 0 ≤ 7302232; omega⟩ dL_law_1678 (fun v831 Z832 I833 L834 q835 => ?_)
  obtain ⟨yZ832, hZ832, r836, rfl, h⟩ := q835
  have hZ := hZ832
  have hx : jext Z0 Z832 := jext_trans hx yZ832
  have k837 := (yZ832 _ _ k828).1
  have k838 := (yZ832 _ _ k829).1
  have k839 := (yZ832 _ _ k830).1
  show jJ G 8 1681 [(0, .ref b), (1, .ref v1), (2, .ref v2), (3, .ref v3), (4, .int v4)] [.int r836, .int r827] Z832 I833 L834 (k9 + 0) (n9 + 0)
  refine j_icmp_eq E 1816 dL_law_1681 (by decide) (fun c840 => ?_) (fun c840 => ?_)
  · have h := h.1 c840
    refine j_sub [0, 1, 2, 3, 4] rfl ?_
    refine j_widen (k9 := k9 + 27) (n9 := n9 + 600) (by show k9 + 0 ≤ k9 + 27; omega) (by show n9 + 0 ≤ n9 + 600; omega) ?_
    exact m_L_law_b1816 E hX hV hl0 hb9 hn9 K23 hK23 v1 v2 v3 v4 Z832 I833 L834 hZ hx k837 k838 k839 h
  · have h := h.2 c840
    refine j_iconst E (v := 0) dL_law_1684 (by decide) ?_
    exact h.elim
set_option maxRecDepth 100000 in
def f_L_law_b1686 (xs : Nat → Int32) (Ls : Nat) (K23 : Nat → Nat → Nat → Int32 → jZ → jI → jL → Prop) (v1 : Nat) (v2 : Nat) (v3 : Nat) (v4 : Int32) (Z : jZ) (I : jI) (L : jL) : Prop := (vp_in (v4 + (1 : Int32)) Ls ∧ (f_X11_keep v1 (xs (v4 + (1 : Int32)).toNatClampNeg) Z I L (fun r847 I844 L845 => (vp_in (v4 + (1 : Int32)) Ls ∧ (f_X12_keep v2 (xs (v4 + (1 : Int32)).toNatClampNeg) Z I844 L845 (fun r854 I851 L852 => ((r847 = r854 → f_L_law_b1816 xs Ls K23 v1 v2 v3 v4 Z I851 L852) ∧ (¬ (r847 = r854) → False))))))))
set_option maxHeartbeats 4000000 in
set_option maxRecDepth 100000 in
theorem m_L_law_b1686 {G : jG} {Z0 : jZ} {xs : Nat → Int32} {Ls b k9 n9 : Nat} (E : jE G cL_law RL (Cond.arrayClass .byte :: jT) 8 (some .boolean) room_1 jRL) (hX : va_X b Ls xs (gS G) (gS G).heap ∧ b < (gS G).heap.size ∧ ¬ gA G b) (hV : jV (gA G) (gS G) (gS G).heap) (hl0 : (gL G).stackTraces = false) (hb9 : k9 + 27 ≤ 600002) (hn9 : n9 + 600 ≤ 7302232) (K23 : Nat → Nat → Nat → Int32 → jZ → jI → jL → Prop) (hK23 : ∀ (v1 : Nat) (v2 : Nat) (v3 : Nat) (v4 : Int32) (Z : jZ) (I : jI) (L : jL), SH Z → jext Z0 Z → jk Z v1 11 → jk Z v2 12 → jk Z v3 15 → K23 v1 v2 v3 v4 Z I L → jJ G 8 23 [(0, .ref b), (1, .ref v1), (2, .ref v2), (3, .ref v3), (4, .int v4)] [] Z I L (k9 + 27) (n9 + 600)) (v1 : Nat) (v2 : Nat) (v3 : Nat) (v4 : Int32) (Z : jZ) (I : jI) (L : jL) (hZ : SH Z) (hx : jext Z0 Z) (kv1 : jk Z v1 11) (kv2 : jk Z v2 12) (kv3 : jk Z v3 15) (h : f_L_law_b1686 xs Ls K23 v1 v2 v3 v4 Z I L) : jJ G 8 1686 [(0, .ref b), (1, .ref v1), (2, .ref v2), (3, .ref v3), (4, .int v4)] [] Z I L (k9 + 0) (n9 + 0) := by
  unfold f_L_law_b1686 at h
  refine j_aload_n E dL_law_1686 1 rfl ?_
  refine j_aload_n E dL_law_1687 0 rfl ?_
  refine j_iload E dL_law_1688 4 rfl ?_
  refine j_iconst E (v := 1) dL_law_1690 (by decide) ?_
  refine j_iadd E dL_law_1691 ?_
  obtain ⟨o841, h⟩ := h
  refine j_sld E hX.1 hX.2.1 hX.2.2 o841 dL_law_1692 ?_
  refine j_callV E [.int (xs (v4 + (1 : Int32)).toNatClampNeg)] [] (c_X11_keep (gL G) (gD G) (gY G) v1 (xs (v4 + (1 : Int32)).toNatClampNeg) Z I L _ hZ kv1 h) (gwV W_1522 W_1523 W_1524 W_28 W_1521) rfl ⟨rfl, fy_X11_keep⟩ ⟨by decide, by decide⟩ (c := 11) rfl (by decide) kv1 rfl rfl (Nat.le_of_ble_eq_true rfl) ⟨by show k9 + 0 + 0 ≤ 600002; omega, by show n9 + 0 + 0 ≤ 7302232; omega⟩ dL_law_1693 (fun v842 Z843 I844 L845 q846 => ?_)
  obtain ⟨rfl, r847, rfl, zr847, h⟩ := q846
  show jJ G 8 1696 [(0, .ref b), (1, .ref v1), (2, .ref v2), (3, .ref v3), (4, .int v4)] [.int r847] Z I844 L845 (k9 + 0) (n9 + 0)
  refine j_aload_n E dL_law_1696 2 rfl ?_
  refine j_aload_n E dL_law_1697 0 rfl ?_
  refine j_iload E dL_law_1698 4 rfl ?_
  refine j_iconst E (v := 1) dL_law_1700 (by decide) ?_
  refine j_iadd E dL_law_1701 ?_
  obtain ⟨o848, h⟩ := h
  refine j_sld E hX.1 hX.2.1 hX.2.2 o848 dL_law_1702 ?_
  refine j_callV E [.int (xs (v4 + (1 : Int32)).toNatClampNeg)] [.int r847] (c_X12_keep (gL G) (gD G) (gY G) v2 (xs (v4 + (1 : Int32)).toNatClampNeg) Z I844 L845 _ hZ kv2 h) (gwV W_1526 W_1527 W_1528 W_679 W_1525) rfl ⟨rfl, fy_X12_keep⟩ ⟨by decide, by decide⟩ (c := 12) rfl (by decide) kv2 rfl rfl (Nat.le_of_ble_eq_true rfl) ⟨by show k9 + 0 + 0 ≤ 600002; omega, by show n9 + 0 + 0 ≤ 7302232; omega⟩ dL_law_1703 (fun v849 Z850 I851 L852 q853 => ?_)
  obtain ⟨rfl, r854, rfl, zr854, h⟩ := q853
  show jJ G 8 1706 [(0, .ref b), (1, .ref v1), (2, .ref v2), (3, .ref v3), (4, .int v4)] [.int r854, .int r847] Z I851 L852 (k9 + 0) (n9 + 0)
  refine j_icmp_eq E 1816 dL_law_1706 (by decide) (fun c855 => ?_) (fun c855 => ?_)
  · have h := h.1 c855
    refine j_sub [0, 1, 2, 3, 4] rfl ?_
    refine j_widen (k9 := k9 + 27) (n9 := n9 + 600) (by show k9 + 0 ≤ k9 + 27; omega) (by show n9 + 0 ≤ n9 + 600; omega) ?_
    exact m_L_law_b1816 E hX hV hl0 hb9 hn9 K23 hK23 v1 v2 v3 v4 Z I851 L852 hZ hx kv1 kv2 kv3 h
  · have h := h.2 c855
    refine j_iconst E (v := 0) dL_law_1709 (by decide) ?_
    exact h.elim
set_option maxRecDepth 100000 in
def f_L_law_b1711 (xs : Nat → Int32) (Ls : Nat) (K23 : Nat → Nat → Nat → Int32 → jZ → jI → jL → Prop) (v1 : Nat) (v2 : Nat) (v3 : Nat) (v4 : Int32) (Z : jZ) (I : jI) (L : jL) : Prop := (vp_in (v4 + (1 : Int32)) Ls ∧ (f_X11_again v1 (xs (v4 + (1 : Int32)).toNatClampNeg) Z I L (fun r862 I859 L860 => (vp_in (v4 + (1 : Int32)) Ls ∧ (f_X12_again v2 (xs (v4 + (1 : Int32)).toNatClampNeg) Z I859 L860 (fun r869 I866 L867 => ((r862 = r869 → f_L_law_b1816 xs Ls K23 v1 v2 v3 v4 Z I866 L867) ∧ (¬ (r862 = r869) → False))))))))
set_option maxHeartbeats 4000000 in
set_option maxRecDepth 100000 in
theorem m_L_law_b1711 {G : jG} {Z0 : jZ} {xs : Nat → Int32} {Ls b k9 n9 : Nat} (E : jE G cL_law RL (Cond.arrayClass .byte :: jT) 8 (some .boolean) room_1 jRL) (hX : va_X b Ls xs (gS G) (gS G).heap ∧ b < (gS G).heap.size ∧ ¬ gA G b) (hV : jV (gA G) (gS G) (gS G).heap) (hl0 : (gL G).stackTraces = false) (hb9 : k9 + 27 ≤ 600002) (hn9 : n9 + 600 ≤ 7302232) (K23 : Nat → Nat → Nat → Int32 → jZ → jI → jL → Prop) (hK23 : ∀ (v1 : Nat) (v2 : Nat) (v3 : Nat) (v4 : Int32) (Z : jZ) (I : jI) (L : jL), SH Z → jext Z0 Z → jk Z v1 11 → jk Z v2 12 → jk Z v3 15 → K23 v1 v2 v3 v4 Z I L → jJ G 8 23 [(0, .ref b), (1, .ref v1), (2, .ref v2), (3, .ref v3), (4, .int v4)] [] Z I L (k9 + 27) (n9 + 600)) (v1 : Nat) (v2 : Nat) (v3 : Nat) (v4 : Int32) (Z : jZ) (I : jI) (L : jL) (hZ : SH Z) (hx : jext Z0 Z) (kv1 : jk Z v1 11) (kv2 : jk Z v2 12) (kv3 : jk Z v3 15) (h : f_L_law_b1711 xs Ls K23 v1 v2 v3 v4 Z I L) : jJ G 8 1711 [(0, .ref b), (1, .ref v1), (2, .ref v2), (3, .ref v3), (4, .int v4)] [] Z I L (k9 + 0) (n9 + 0) := by
  unfold f_L_law_b1711 at h
  refine j_aload_n E dL_law_1711 1 rfl ?_
  refine j_aload_n E dL_law_1712 0 rfl ?_
  refine j_iload E dL_law_1713 4 rfl ?_
  refine j_iconst E (v := 1) dL_law_1715 (by decide) ?_
  refine j_iadd E dL_law_1716 ?_
  obtain ⟨o856, h⟩ := h
  refine j_sld E hX.1 hX.2.1 hX.2.2 o856 dL_law_1717 ?_
  refine j_callV E [.int (xs (v4 + (1 : Int32)).toNatClampNeg)] [] (c_X11_again (gL G) (gD G) (gY G) v1 (xs (v4 + (1 : Int32)).toNatClampNeg) Z I L _ hZ kv1 h) (gwV W_1530 W_1531 W_1532 W_28 W_1529) rfl ⟨rfl, fy_X11_again⟩ ⟨by decide, by decide⟩ (c := 11) rfl (by decide) kv1 rfl rfl (Nat.le_of_ble_eq_true rfl) ⟨by show k9 + 0 + 0 ≤ 600002; omega, by show n9 + 0 + 0 ≤ 7302232; omega⟩ dL_law_1718 (fun v857 Z858 I859 L860 q861 => ?_)
  obtain ⟨rfl, r862, rfl, zr862, h⟩ := q861
  show jJ G 8 1721 [(0, .ref b), (1, .ref v1), (2, .ref v2), (3, .ref v3), (4, .int v4)] [.int r862] Z I859 L860 (k9 + 0) (n9 + 0)
  refine j_aload_n E dL_law_1721 2 rfl ?_
  refine j_aload_n E dL_law_1722 0 rfl ?_
  refine j_iload E dL_law_1723 4 rfl ?_
  refine j_iconst E (v := 1) dL_law_1725 (by decide) ?_
  refine j_iadd E dL_law_1726 ?_
  obtain ⟨o863, h⟩ := h
  refine j_sld E hX.1 hX.2.1 hX.2.2 o863 dL_law_1727 ?_
  refine j_callV E [.int (xs (v4 + (1 : Int32)).toNatClampNeg)] [.int r862] (c_X12_again (gL G) (gD G) (gY G) v2 (xs (v4 + (1 : Int32)).toNatClampNeg) Z I859 L860 _ hZ kv2 h) (gwV W_1534 W_1535 W_1536 W_679 W_1533) rfl ⟨rfl, fy_X12_again⟩ ⟨by decide, by decide⟩ (c := 12) rfl (by decide) kv2 rfl rfl (Nat.le_of_ble_eq_true rfl) ⟨by show k9 + 0 + 0 ≤ 600002; omega, by show n9 + 0 + 0 ≤ 7302232; omega⟩ dL_law_1728 (fun v864 Z865 I866 L867 q868 => ?_)
  obtain ⟨rfl, r869, rfl, zr869, h⟩ := q868
  show jJ G 8 1731 [(0, .ref b), (1, .ref v1), (2, .ref v2), (3, .ref v3), (4, .int v4)] [.int r869, .int r862] Z I866 L867 (k9 + 0) (n9 + 0)
  refine j_icmp_eq E 1816 dL_law_1731 (by decide) (fun c870 => ?_) (fun c870 => ?_)
  · have h := h.1 c870
    refine j_sub [0, 1, 2, 3, 4] rfl ?_
    refine j_widen (k9 := k9 + 27) (n9 := n9 + 600) (by show k9 + 0 ≤ k9 + 27; omega) (by show n9 + 0 ≤ n9 + 600; omega) ?_
    exact m_L_law_b1816 E hX hV hl0 hb9 hn9 K23 hK23 v1 v2 v3 v4 Z I866 L867 hZ hx kv1 kv2 kv3 h
  · have h := h.2 c870
    refine j_iconst E (v := 0) dL_law_1734 (by decide) ?_
    exact h.elim
set_option maxRecDepth 100000 in
def f_L_law_b1736 (xs : Nat → Int32) (Ls : Nat) (K23 : Nat → Nat → Nat → Int32 → jZ → jI → jL → Prop) (v1 : Nat) (v2 : Nat) (v3 : Nat) (v4 : Int32) (Z : jZ) (I : jI) (L : jL) : Prop := (vp_in (v4 + (1 : Int32)) Ls ∧ (f_X11_count v1 (xs (v4 + (1 : Int32)).toNatClampNeg) Z I L (fun r877 I874 L875 => (vp_in (v4 + (1 : Int32)) Ls ∧ (f_X12_count v2 (xs (v4 + (1 : Int32)).toNatClampNeg) Z I874 L875 (fun r884 I881 L882 => ((r877 = r884 → f_L_law_b1816 xs Ls K23 v1 v2 v3 v4 Z I881 L882) ∧ (¬ (r877 = r884) → False))))))))
set_option maxHeartbeats 4000000 in
set_option maxRecDepth 100000 in
theorem m_L_law_b1736 {G : jG} {Z0 : jZ} {xs : Nat → Int32} {Ls b k9 n9 : Nat} (E : jE G cL_law RL (Cond.arrayClass .byte :: jT) 8 (some .boolean) room_1 jRL) (hX : va_X b Ls xs (gS G) (gS G).heap ∧ b < (gS G).heap.size ∧ ¬ gA G b) (hV : jV (gA G) (gS G) (gS G).heap) (hl0 : (gL G).stackTraces = false) (hb9 : k9 + 27 ≤ 600002) (hn9 : n9 + 600 ≤ 7302232) (K23 : Nat → Nat → Nat → Int32 → jZ → jI → jL → Prop) (hK23 : ∀ (v1 : Nat) (v2 : Nat) (v3 : Nat) (v4 : Int32) (Z : jZ) (I : jI) (L : jL), SH Z → jext Z0 Z → jk Z v1 11 → jk Z v2 12 → jk Z v3 15 → K23 v1 v2 v3 v4 Z I L → jJ G 8 23 [(0, .ref b), (1, .ref v1), (2, .ref v2), (3, .ref v3), (4, .int v4)] [] Z I L (k9 + 27) (n9 + 600)) (v1 : Nat) (v2 : Nat) (v3 : Nat) (v4 : Int32) (Z : jZ) (I : jI) (L : jL) (hZ : SH Z) (hx : jext Z0 Z) (kv1 : jk Z v1 11) (kv2 : jk Z v2 12) (kv3 : jk Z v3 15) (h : f_L_law_b1736 xs Ls K23 v1 v2 v3 v4 Z I L) : jJ G 8 1736 [(0, .ref b), (1, .ref v1), (2, .ref v2), (3, .ref v3), (4, .int v4)] [] Z I L (k9 + 0) (n9 + 0) := by
  unfold f_L_law_b1736 at h
  refine j_aload_n E dL_law_1736 1 rfl ?_
  refine j_aload_n E dL_law_1737 0 rfl ?_
  refine j_iload E dL_law_1738 4 rfl ?_
  refine j_iconst E (v := 1) dL_law_1740 (by decide) ?_
  refine j_iadd E dL_law_1741 ?_
  obtain ⟨o871, h⟩ := h
  refine j_sld E hX.1 hX.2.1 hX.2.2 o871 dL_law_1742 ?_
  refine j_callV E [.int (xs (v4 + (1 : Int32)).toNatClampNeg)] [] (c_X11_count (gL G) (gD G) (gY G) v1 (xs (v4 + (1 : Int32)).toNatClampNeg) Z I L _ hZ kv1 h) (gwV W_1538 W_1539 W_1540 W_28 W_1537) rfl ⟨rfl, fy_X11_count⟩ ⟨by decide, by decide⟩ (c := 11) rfl (by decide) kv1 rfl rfl (Nat.le_of_ble_eq_true rfl) ⟨by show k9 + 0 + 0 ≤ 600002; omega, by show n9 + 0 + 0 ≤ 7302232; omega⟩ dL_law_1743 (fun v872 Z873 I874 L875 q876 => ?_)
  obtain ⟨rfl, r877, rfl, h⟩ := q876
  show jJ G 8 1746 [(0, .ref b), (1, .ref v1), (2, .ref v2), (3, .ref v3), (4, .int v4)] [.int r877] Z I874 L875 (k9 + 0) (n9 + 0)
  refine j_aload_n E dL_law_1746 2 rfl ?_
  refine j_aload_n E dL_law_1747 0 rfl ?_
  refine j_iload E dL_law_1748 4 rfl ?_
  refine j_iconst E (v := 1) dL_law_1750 (by decide) ?_
  refine j_iadd E dL_law_1751 ?_
  obtain ⟨o878, h⟩ := h
  refine j_sld E hX.1 hX.2.1 hX.2.2 o878 dL_law_1752 ?_
  refine j_callV E [.int (xs (v4 + (1 : Int32)).toNatClampNeg)] [.int r877] (c_X12_count (gL G) (gD G) (gY G) v2 (xs (v4 + (1 : Int32)).toNatClampNeg) Z I874 L875 _ hZ kv2 h) (gwV W_1542 W_1543 W_1544 W_679 W_1541) rfl ⟨rfl, fy_X12_count⟩ ⟨by decide, by decide⟩ (c := 12) rfl (by decide) kv2 rfl rfl (Nat.le_of_ble_eq_true rfl) ⟨by show k9 + 0 + 0 ≤ 600002; omega, by show n9 + 0 + 0 ≤ 7302232; omega⟩ dL_law_1753 (fun v879 Z880 I881 L882 q883 => ?_)
  obtain ⟨rfl, r884, rfl, h⟩ := q883
  show jJ G 8 1756 [(0, .ref b), (1, .ref v1), (2, .ref v2), (3, .ref v3), (4, .int v4)] [.int r884, .int r877] Z I881 L882 (k9 + 0) (n9 + 0)
  refine j_icmp_eq E 1816 dL_law_1756 (by decide) (fun c885 => ?_) (fun c885 => ?_)
  · have h := h.1 c885
    refine j_sub [0, 1, 2, 3, 4] rfl ?_
    refine j_widen (k9 := k9 + 27) (n9 := n9 + 600) (by show k9 + 0 ≤ k9 + 27; omega) (by show n9 + 0 ≤ n9 + 600; omega) ?_
    exact m_L_law_b1816 E hX hV hl0 hb9 hn9 K23 hK23 v1 v2 v3 v4 Z I881 L882 hZ hx kv1 kv2 kv3 h
  · have h := h.2 c885
    refine j_iconst E (v := 0) dL_law_1759 (by decide) ?_
    exact h.elim
set_option maxRecDepth 100000 in
def f_L_law_b1813 (xs : Nat → Int32) (Ls : Nat) (K23 : Nat → Nat → Nat → Int32 → jZ → jI → jL → Prop) (v1 : Nat) (v2 : Nat) (v3 : Nat) (v4 : Int32) (Z : jZ) (I : jI) (L : jL) : Prop := f_L_law_b1816 xs Ls K23 v1 v2 v3 v4 Z I L
set_option maxHeartbeats 4000000 in
set_option maxRecDepth 100000 in
theorem m_L_law_b1813 {G : jG} {Z0 : jZ} {xs : Nat → Int32} {Ls b k9 n9 : Nat} (E : jE G cL_law RL (Cond.arrayClass .byte :: jT) 8 (some .boolean) room_1 jRL) (hX : va_X b Ls xs (gS G) (gS G).heap ∧ b < (gS G).heap.size ∧ ¬ gA G b) (hV : jV (gA G) (gS G) (gS G).heap) (hl0 : (gL G).stackTraces = false) (hb9 : k9 + 27 ≤ 600002) (hn9 : n9 + 600 ≤ 7302232) (K23 : Nat → Nat → Nat → Int32 → jZ → jI → jL → Prop) (hK23 : ∀ (v1 : Nat) (v2 : Nat) (v3 : Nat) (v4 : Int32) (Z : jZ) (I : jI) (L : jL), SH Z → jext Z0 Z → jk Z v1 11 → jk Z v2 12 → jk Z v3 15 → K23 v1 v2 v3 v4 Z I L → jJ G 8 23 [(0, .ref b), (1, .ref v1), (2, .ref v2), (3, .ref v3), (4, .int v4)] [] Z I L (k9 + 27) (n9 + 600)) (v1 : Nat) (v2 : Nat) (v3 : Nat) (v4 : Int32) (Z : jZ) (I : jI) (L : jL) (hZ : SH Z) (hx : jext Z0 Z) (kv1 : jk Z v1 11) (kv2 : jk Z v2 12) (kv3 : jk Z v3 15) (h : f_L_law_b1813 xs Ls K23 v1 v2 v3 v4 Z I L) : jJ G 8 1813 [(0, .ref b), (1, .ref v1), (2, .ref v2), (3, .ref v3), (4, .int v4)] [] Z I L (k9 + 27) (n9 + 600) := by
  unfold f_L_law_b1813 at h
  refine j_goto E 1816 dL_law_1813 (by decide) ?_
  refine j_sub [0, 1, 2, 3, 4] rfl ?_
  refine j_widen (k9 := k9 + 27) (n9 := n9 + 600) (by show k9 + 27 ≤ k9 + 27; omega) (by show n9 + 600 ≤ n9 + 600; omega) ?_
  exact m_L_law_b1816 E hX hV hl0 hb9 hn9 K23 hK23 v1 v2 v3 v4 Z I L hZ hx kv1 kv2 kv3 h
set_option maxRecDepth 100000 in
def f_L_law_b1761 (xs : Nat → Int32) (Ls : Nat) (K23 : Nat → Nat → Nat → Int32 → jZ → jI → jL → Prop) (v1 : Nat) (v2 : Nat) (v3 : Nat) (v4 : Int32) (Z : jZ) (I : jI) (L : jL) : Prop := (vp_in (v4 + (1 : Int32)) Ls ∧ (f_L_row v1 (xs (v4 + (1 : Int32)).toNatClampNeg) v3 Z I L (fun r892 I889 L890 => (vp_in (v4 + (1 : Int32)) Ls ∧ (f_X12_row v2 (xs (v4 + (1 : Int32)).toNatClampNeg) Z I889 L890 (fun r899 I896 L897 => (f_X12_thrown v2 Z I896 L897 (fun r905 I902 L903 => ((r905 = r892 → ((¬ r892 = 0 → f_L_law_b1813 xs Ls K23 v1 v2 v3 v4 Z I902 L903) ∧ (r892 = 0 → (vp_in (0 : Int32) (jlen Z v3) ∧ (((lg_cmp (L903 v3 (0 : Int32).toNatClampNeg) r899) = 0 → f_L_law_b1813 xs Ls K23 v1 v2 v3 v4 Z I902 L903) ∧ (¬ ((lg_cmp (L903 v3 (0 : Int32).toNatClampNeg) r899) = 0) → False)))))) ∧ (¬ (r905 = r892) → False))))))))))
set_option maxHeartbeats 4000000 in
set_option maxRecDepth 100000 in
theorem m_L_law_b1761 {G : jG} {Z0 : jZ} {xs : Nat → Int32} {Ls b k9 n9 : Nat} (E : jE G cL_law RL (Cond.arrayClass .byte :: jT) 8 (some .boolean) room_1 jRL) (hX : va_X b Ls xs (gS G) (gS G).heap ∧ b < (gS G).heap.size ∧ ¬ gA G b) (hV : jV (gA G) (gS G) (gS G).heap) (hl0 : (gL G).stackTraces = false) (hb9 : k9 + 27 ≤ 600002) (hn9 : n9 + 600 ≤ 7302232) (K23 : Nat → Nat → Nat → Int32 → jZ → jI → jL → Prop) (hK23 : ∀ (v1 : Nat) (v2 : Nat) (v3 : Nat) (v4 : Int32) (Z : jZ) (I : jI) (L : jL), SH Z → jext Z0 Z → jk Z v1 11 → jk Z v2 12 → jk Z v3 15 → K23 v1 v2 v3 v4 Z I L → jJ G 8 23 [(0, .ref b), (1, .ref v1), (2, .ref v2), (3, .ref v3), (4, .int v4)] [] Z I L (k9 + 27) (n9 + 600)) (v1 : Nat) (v2 : Nat) (v3 : Nat) (v4 : Int32) (Z : jZ) (I : jI) (L : jL) (hZ : SH Z) (hx : jext Z0 Z) (kv1 : jk Z v1 11) (kv2 : jk Z v2 12) (kv3 : jk Z v3 15) (h : f_L_law_b1761 xs Ls K23 v1 v2 v3 v4 Z I L) : jJ G 8 1761 [(0, .ref b), (1, .ref v1), (2, .ref v2), (3, .ref v3), (4, .int v4)] [] Z I L (k9 + 0) (n9 + 0) := by
  unfold f_L_law_b1761 at h
  refine j_aload_n E dL_law_1761 1 rfl ?_
  refine j_aload_n E dL_law_1762 0 rfl ?_
  refine j_iload E dL_law_1763 4 rfl ?_
  refine j_iconst E (v := 1) dL_law_1765 (by decide) ?_
  refine j_iadd E dL_law_1766 ?_
  obtain ⟨o886, h⟩ := h
  refine j_sld E hX.1 hX.2.1 hX.2.2 o886 dL_law_1767 ?_
  refine j_aload_n E dL_law_1768 3 rfl ?_
  refine j_callSH E hV [.ref v1, .int (xs (v4 + (1 : Int32)).toNatClampNeg), .ref v3] [] (c_L_row (gL G) hl0 (gD G) (gY G) v1 (xs (v4 + (1 : Int32)).toNatClampNeg) v3 Z I L _ hZ kv1 kv3 h) (gwS W_1545 W_1546 W_1206 W_1547) rfl fy_L_row ⟨by decide, by decide⟩ rfl rfl (Nat.le_of_ble_eq_true rfl) ⟨by show k9 + 0 + 1 ≤ 600002; omega, by show n9 + 0 + 6 ≤ 7302232; omega⟩ dL_law_1769 (fun v887 Z888 I889 L890 q891 => ?_)
  obtain ⟨rfl, r892, rfl, h⟩ := q891
  show jJ G 8 1772 [(0, .ref b), (1, .ref v1), (2, .ref v2), (3, .ref v3), (4, .int v4)] [.int r892] Z I889 L890 (k9 + 1) (n9 + 6)
  refine j_istore E 5 [(5, .int r892), (0, .ref b), (1, .ref v1), (2, .ref v2), (3, .ref v3), (4, .int v4)] dL_law_1772 (by decide) rfl ?_
  refine j_aload_n E dL_law_1774 3 rfl ?_
  refine j_aload_n E dL_law_1775 1 rfl ?_
  refine j_iload E dL_law_1776 5 rfl ?_
  refine j_iconst E (v := 1) dL_law_1778 (by decide) ?_
  refine j_iadd E dL_law_1779 ?_
  obtain ⟨o893, h⟩ := h
  refine j_sld E hX.1 hX.2.1 hX.2.2 o893 dL_law_1780 ?_
  refine j_callV E [.int (xs (v4 + (1 : Int32)).toNatClampNeg)] [] (c_X12_row (gL G) (gD G) (gY G) v2 (xs (v4 + (1 : Int32)).toNatClampNeg) Z I889 L890 _ hZ kv2 h) (gwV W_1549 W_1550 W_1551 W_679 W_1548) rfl ⟨rfl, fy_X12_row⟩ ⟨by decide, by decide⟩ (c := 12) rfl (by decide) kv2 rfl rfl (Nat.le_of_ble_eq_true rfl) ⟨by show k9 + 1 + 0 ≤ 600002; omega, by show n9 + 6 + 0 ≤ 7302232; omega⟩ dL_law_1781 (fun v894 Z895 I896 L897 q898 => ?_)
  obtain ⟨rfl, r899, rfl, h⟩ := q898
  show jJ G 8 1784 [(5, .int r892), (0, .ref b), (1, .ref v1), (2, .ref v2), (3, .ref v3), (4, .int v4)] [.long r899] Z I896 L897 (k9 + 1) (n9 + 6)
  refine j_lstore E 6 [(6, .long r899), (5, .int r892), (0, .ref b), (1, .ref v1), (2, .ref v2), (3, .ref v3), (4, .int v4)] dL_law_1784 (by decide) rfl ?_
  refine j_aload_n E dL_law_1786 4 rfl ?_
  refine j_callV E [] [] (c_X12_thrown (gL G) (gD G) (gY G) v2 Z I896 L897 _ hZ kv2 h) (gwV W_1215 W_1216 W_1217 W_679 W_1214) rfl ⟨rfl, fy_X12_thrown⟩ ⟨by decide, by decide⟩ (c := 12) rfl (by decide) kv2 rfl rfl (Nat.le_of_ble_eq_true rfl) ⟨by show k9 + 1 + 0 ≤ 600002; omega, by show n9 + 6 + 0 ≤ 7302232; omega⟩ dL_law_1787 (fun v900 Z901 I902 L903 q904 => ?_)
  obtain ⟨rfl, r905, rfl, h⟩ := q904
  show jJ G 8 1790 [(6, .long r899), (5, .int r892), (0, .ref b), (1, .ref v1), (2, .ref v2), (3, .ref v3), (4, .int v4)] [.int r905] Z I902 L903 (k9 + 1) (n9 + 6)
  refine j_iload E dL_law_1790 1 rfl ?_
  refine j_icmp_eq E 1797 dL_law_1792 (by decide) (fun c906 => ?_) (fun c906 => ?_)
  · have h := h.1 c906
    refine j_iload E dL_law_1797 1 rfl ?_
    refine j_if_ne E 1813 dL_law_1799 (by decide) (fun c907 => ?_) (fun c907 => ?_)
    · have h := h.1 c907
      refine j_sub [2, 3, 4, 5, 6] rfl ?_
      refine j_widen (k9 := k9 + 27) (n9 := n9 + 600) (by show k9 + 1 ≤ k9 + 27; omega) (by show n9 + 6 ≤ n9 + 600; omega) ?_
      exact m_L_law_b1813 E hX hV hl0 hb9 hn9 K23 hK23 v1 v2 v3 v4 Z I902 L903 hZ hx kv1 kv2 kv3 h
    · have h := h.2 c907
      refine j_aload_n E dL_law_1802 5 rfl ?_
      refine j_iconst E (v := 0) dL_law_1803 (by decide) ?_
      obtain ⟨o908, h⟩ := h
      refine j_lald E kv3 o908 dL_law_1804 ?_
      refine j_lload E dL_law_1805 0 rfl ?_
      refine j_lcmp E dL_law_1807 ?_
      refine j_if_eq E 1813 dL_law_1808 (by decide) (fun c909 => ?_) (fun c909 => ?_)
      · have h := h.1 c909
        refine j_sub [2, 3, 4, 5, 6] rfl ?_
        refine j_widen (k9 := k9 + 27) (n9 := n9 + 600) (by show k9 + 1 ≤ k9 + 27; omega) (by show n9 + 6 ≤ n9 + 600; omega) ?_
        exact m_L_law_b1813 E hX hV hl0 hb9 hn9 K23 hK23 v1 v2 v3 v4 Z I902 L903 hZ hx kv1 kv2 kv3 h
      · have h := h.2 c909
        refine j_iconst E (v := 0) dL_law_1811 (by decide) ?_
        exact h.elim
  · have h := h.2 c906
    refine j_iconst E (v := 0) dL_law_1795 (by decide) ?_
    exact h.elim
set_option maxRecDepth 100000 in
def f_L_law_L23 (xs : Nat → Int32) (Ls : Nat) : Nat → Nat → Nat → Nat → Int32 → jZ → jI → jL → Prop
  | 0 => fun _ _ _ _ _ _ _ => False
  | n + 1 => fun v1 v2 v3 v4 Z I L => ((((Int32.ofNat Ls) - (6 : Int32)) < v4 → True) ∧ (¬ (((Int32.ofNat Ls) - (6 : Int32)) < v4) → (vp_in v4 Ls ∧ ((((xs v4.toNatClampNeg) &&& (63 : Int32)) = 0 → f_L_law_b244 xs Ls (f_L_law_L23 xs Ls n) v1 v2 v3 v4 Z I L) ∧ (¬ ((xs v4.toNatClampNeg) &&& (63 : Int32)) = 0 → ((((xs v4.toNatClampNeg) &&& (63 : Int32)) = 1 → f_L_law_b269 xs Ls (f_L_law_L23 xs Ls n) v1 v2 v3 v4 Z I L) ∧ (¬ ((xs v4.toNatClampNeg) &&& (63 : Int32)) = 1 → ((((xs v4.toNatClampNeg) &&& (63 : Int32)) = 2 → f_L_law_b294 xs Ls (f_L_law_L23 xs Ls n) v1 v2 v3 v4 Z I L) ∧ (¬ ((xs v4.toNatClampNeg) &&& (63 : Int32)) = 2 → ((((xs v4.toNatClampNeg) &&& (63 : Int32)) = 3 → f_L_law_b307 xs Ls (f_L_law_L23 xs Ls n) v1 v2 v3 v4 Z I L) ∧ (¬ ((xs v4.toNatClampNeg) &&& (63 : Int32)) = 3 → ((((xs v4.toNatClampNeg) &&& (63 : Int32)) = 4 → f_L_law_b332 xs Ls (f_L_law_L23 xs Ls n) v1 v2 v3 v4 Z I L) ∧ (¬ ((xs v4.toNatClampNeg) &&& (63 : Int32)) = 4 → ((((xs v4.toNatClampNeg) &&& (63 : Int32)) = 5 → f_L_law_b400 xs Ls (f_L_law_L23 xs Ls n) v1 v2 v3 v4 Z I L) ∧ (¬ ((xs v4.toNatClampNeg) &&& (63 : Int32)) = 5 → ((((xs v4.toNatClampNeg) &&& (63 : Int32)) = 6 → f_L_law_b449 xs Ls (f_L_law_L23 xs Ls n) v1 v2 v3 v4 Z I L) ∧ (¬ ((xs v4.toNatClampNeg) &&& (63 : Int32)) = 6 → ((((xs v4.toNatClampNeg) &&& (63 : Int32)) = 7 → f_L_law_b510 xs Ls (f_L_law_L23 xs Ls n) v1 v2 v3 v4 Z I L) ∧ (¬ ((xs v4.toNatClampNeg) &&& (63 : Int32)) = 7 → ((((xs v4.toNatClampNeg) &&& (63 : Int32)) = 8 → f_L_law_b575 xs Ls (f_L_law_L23 xs Ls n) v1 v2 v3 v4 Z I L) ∧ (¬ ((xs v4.toNatClampNeg) &&& (63 : Int32)) = 8 → ((((xs v4.toNatClampNeg) &&& (63 : Int32)) = 9 → f_L_law_b600 xs Ls (f_L_law_L23 xs Ls n) v1 v2 v3 v4 Z I L) ∧ (¬ ((xs v4.toNatClampNeg) &&& (63 : Int32)) = 9 → ((((xs v4.toNatClampNeg) &&& (63 : Int32)) = 10 → f_L_law_b661 xs Ls (f_L_law_L23 xs Ls n) v1 v2 v3 v4 Z I L) ∧ (¬ ((xs v4.toNatClampNeg) &&& (63 : Int32)) = 10 → ((((xs v4.toNatClampNeg) &&& (63 : Int32)) = 11 → f_L_law_b698 xs Ls (f_L_law_L23 xs Ls n) v1 v2 v3 v4 Z I L) ∧ (¬ ((xs v4.toNatClampNeg) &&& (63 : Int32)) = 11 → ((((xs v4.toNatClampNeg) &&& (63 : Int32)) = 12 → f_L_law_b766 xs Ls (f_L_law_L23 xs Ls n) v1 v2 v3 v4 Z I L) ∧ (¬ ((xs v4.toNatClampNeg) &&& (63 : Int32)) = 12 → ((((xs v4.toNatClampNeg) &&& (63 : Int32)) = 13 → f_L_law_b803 xs Ls (f_L_law_L23 xs Ls n) v1 v2 v3 v4 Z I L) ∧ (¬ ((xs v4.toNatClampNeg) &&& (63 : Int32)) = 13 → ((((xs v4.toNatClampNeg) &&& (63 : Int32)) = 14 → f_L_law_b840 xs Ls (f_L_law_L23 xs Ls n) v1 v2 v3 v4 Z I L) ∧ (¬ ((xs v4.toNatClampNeg) &&& (63 : Int32)) = 14 → ((((xs v4.toNatClampNeg) &&& (63 : Int32)) = 15 → f_L_law_b877 xs Ls (f_L_law_L23 xs Ls n) v1 v2 v3 v4 Z I L) ∧ (¬ ((xs v4.toNatClampNeg) &&& (63 : Int32)) = 15 → ((((xs v4.toNatClampNeg) &&& (63 : Int32)) = 16 → f_L_law_b902 xs Ls (f_L_law_L23 xs Ls n) v1 v2 v3 v4 Z I L) ∧ (¬ ((xs v4.toNatClampNeg) &&& (63 : Int32)) = 16 → ((((xs v4.toNatClampNeg) &&& (63 : Int32)) = 17 → f_L_law_b927 xs Ls (f_L_law_L23 xs Ls n) v1 v2 v3 v4 Z I L) ∧ (¬ ((xs v4.toNatClampNeg) &&& (63 : Int32)) = 17 → ((((xs v4.toNatClampNeg) &&& (63 : Int32)) = 18 → f_L_law_b952 xs Ls (f_L_law_L23 xs Ls n) v1 v2 v3 v4 Z I L) ∧ (¬ ((xs v4.toNatClampNeg) &&& (63 : Int32)) = 18 → ((((xs v4.toNatClampNeg) &&& (63 : Int32)) = 19 → f_L_law_b977 xs Ls (f_L_law_L23 xs Ls n) v1 v2 v3 v4 Z I L) ∧ (¬ ((xs v4.toNatClampNeg) &&& (63 : Int32)) = 19 → ((((xs v4.toNatClampNeg) &&& (63 : Int32)) = 20 → f_L_law_b1015 xs Ls (f_L_law_L23 xs Ls n) v1 v2 v3 v4 Z I L) ∧ (¬ ((xs v4.toNatClampNeg) &&& (63 : Int32)) = 20 → ((((xs v4.toNatClampNeg) &&& (63 : Int32)) = 21 → f_L_law_b1064 xs Ls (f_L_law_L23 xs Ls n) v1 v2 v3 v4 Z I L) ∧ (¬ ((xs v4.toNatClampNeg) &&& (63 : Int32)) = 21 → ((((xs v4.toNatClampNeg) &&& (63 : Int32)) = 22 → f_L_law_b1101 xs Ls (f_L_law_L23 xs Ls n) v1 v2 v3 v4 Z I L) ∧ (¬ ((xs v4.toNatClampNeg) &&& (63 : Int32)) = 22 → ((((xs v4.toNatClampNeg) &&& (63 : Int32)) = 23 → f_L_law_b1138 xs Ls (f_L_law_L23 xs Ls n) v1 v2 v3 v4 Z I L) ∧ (¬ ((xs v4.toNatClampNeg) &&& (63 : Int32)) = 23 → ((((xs v4.toNatClampNeg) &&& (63 : Int32)) = 24 → f_L_law_b1163 xs Ls (f_L_law_L23 xs Ls n) v1 v2 v3 v4 Z I L) ∧ (¬ ((xs v4.toNatClampNeg) &&& (63 : Int32)) = 24 → ((((xs v4.toNatClampNeg) &&& (63 : Int32)) = 25 → f_L_law_b1188 xs Ls (f_L_law_L23 xs Ls n) v1 v2 v3 v4 Z I L) ∧ (¬ ((xs v4.toNatClampNeg) &&& (63 : Int32)) = 25 → ((((xs v4.toNatClampNeg) &&& (63 : Int32)) = 26 → f_L_law_b1201 xs Ls (f_L_law_L23 xs Ls n) v1 v2 v3 v4 Z I L) ∧ (¬ ((xs v4.toNatClampNeg) &&& (63 : Int32)) = 26 → ((((xs v4.toNatClampNeg) &&& (63 : Int32)) = 27 → f_L_law_b1226 xs Ls (f_L_law_L23 xs Ls n) v1 v2 v3 v4 Z I L) ∧ (¬ ((xs v4.toNatClampNeg) &&& (63 : Int32)) = 27 → ((((xs v4.toNatClampNeg) &&& (63 : Int32)) = 28 → f_L_law_b1251 xs Ls (f_L_law_L23 xs Ls n) v1 v2 v3 v4 Z I L) ∧ (¬ ((xs v4.toNatClampNeg) &&& (63 : Int32)) = 28 → ((((xs v4.toNatClampNeg) &&& (63 : Int32)) = 29 → f_L_law_b1276 xs Ls (f_L_law_L23 xs Ls n) v1 v2 v3 v4 Z I L) ∧ (¬ ((xs v4.toNatClampNeg) &&& (63 : Int32)) = 29 → ((((xs v4.toNatClampNeg) &&& (63 : Int32)) = 30 → f_L_law_b1301 xs Ls (f_L_law_L23 xs Ls n) v1 v2 v3 v4 Z I L) ∧ (¬ ((xs v4.toNatClampNeg) &&& (63 : Int32)) = 30 → ((((xs v4.toNatClampNeg) &&& (63 : Int32)) = 31 → f_L_law_b1314 xs Ls (f_L_law_L23 xs Ls n) v1 v2 v3 v4 Z I L) ∧ (¬ ((xs v4.toNatClampNeg) &&& (63 : Int32)) = 31 → ((((xs v4.toNatClampNeg) &&& (63 : Int32)) = 32 → f_L_law_b1339 xs Ls (f_L_law_L23 xs Ls n) v1 v2 v3 v4 Z I L) ∧ (¬ ((xs v4.toNatClampNeg) &&& (63 : Int32)) = 32 → ((((xs v4.toNatClampNeg) &&& (63 : Int32)) = 33 → f_L_law_b1376 xs Ls (f_L_law_L23 xs Ls n) v1 v2 v3 v4 Z I L) ∧ (¬ ((xs v4.toNatClampNeg) &&& (63 : Int32)) = 33 → ((((xs v4.toNatClampNeg) &&& (63 : Int32)) = 34 → f_L_law_b1401 xs Ls (f_L_law_L23 xs Ls n) v1 v2 v3 v4 Z I L) ∧ (¬ ((xs v4.toNatClampNeg) &&& (63 : Int32)) = 34 → ((((xs v4.toNatClampNeg) &&& (63 : Int32)) = 35 → f_L_law_b1426 xs Ls (f_L_law_L23 xs Ls n) v1 v2 v3 v4 Z I L) ∧ (¬ ((xs v4.toNatClampNeg) &&& (63 : Int32)) = 35 → ((((xs v4.toNatClampNeg) &&& (63 : Int32)) = 36 → f_L_law_b1463 xs Ls (f_L_law_L23 xs Ls n) v1 v2 v3 v4 Z I L) ∧ (¬ ((xs v4.toNatClampNeg) &&& (63 : Int32)) = 36 → ((((xs v4.toNatClampNeg) &&& (63 : Int32)) = 37 → f_L_law_b1536 xs Ls (f_L_law_L23 xs Ls n) v1 v2 v3 v4 Z I L) ∧ (¬ ((xs v4.toNatClampNeg) &&& (63 : Int32)) = 37 → ((((xs v4.toNatClampNeg) &&& (63 : Int32)) = 38 → f_L_law_b1573 xs Ls (f_L_law_L23 xs Ls n) v1 v2 v3 v4 Z I L) ∧ (¬ ((xs v4.toNatClampNeg) &&& (63 : Int32)) = 38 → ((((xs v4.toNatClampNeg) &&& (63 : Int32)) = 39 → f_L_law_b1586 xs Ls (f_L_law_L23 xs Ls n) v1 v2 v3 v4 Z I L) ∧ (¬ ((xs v4.toNatClampNeg) &&& (63 : Int32)) = 39 → ((((xs v4.toNatClampNeg) &&& (63 : Int32)) = 40 → f_L_law_b1611 xs Ls (f_L_law_L23 xs Ls n) v1 v2 v3 v4 Z I L) ∧ (¬ ((xs v4.toNatClampNeg) &&& (63 : Int32)) = 40 → ((((xs v4.toNatClampNeg) &&& (63 : Int32)) = 41 → f_L_law_b1648 xs Ls (f_L_law_L23 xs Ls n) v1 v2 v3 v4 Z I L) ∧ (¬ ((xs v4.toNatClampNeg) &&& (63 : Int32)) = 41 → ((((xs v4.toNatClampNeg) &&& (63 : Int32)) = 42 → f_L_law_b1673 xs Ls (f_L_law_L23 xs Ls n) v1 v2 v3 v4 Z I L) ∧ (¬ ((xs v4.toNatClampNeg) &&& (63 : Int32)) = 42 → ((((xs v4.toNatClampNeg) &&& (63 : Int32)) = 43 → f_L_law_b1686 xs Ls (f_L_law_L23 xs Ls n) v1 v2 v3 v4 Z I L) ∧ (¬ ((xs v4.toNatClampNeg) &&& (63 : Int32)) = 43 → ((((xs v4.toNatClampNeg) &&& (63 : Int32)) = 44 → f_L_law_b1711 xs Ls (f_L_law_L23 xs Ls n) v1 v2 v3 v4 Z I L) ∧ (¬ ((xs v4.toNatClampNeg) &&& (63 : Int32)) = 44 → ((((xs v4.toNatClampNeg) &&& (63 : Int32)) = 45 → f_L_law_b1736 xs Ls (f_L_law_L23 xs Ls n) v1 v2 v3 v4 Z I L) ∧ (¬ ((xs v4.toNatClampNeg) &&& (63 : Int32)) = 45 → ((((xs v4.toNatClampNeg) &&& (63 : Int32)) = 46 → f_L_law_b1761 xs Ls (f_L_law_L23 xs Ls n) v1 v2 v3 v4 Z I L) ∧ (¬ ((xs v4.toNatClampNeg) &&& (63 : Int32)) = 46 → f_L_law_b1816 xs Ls (f_L_law_L23 xs Ls n) v1 v2 v3 v4 Z I L)))))))))))))))))))))))))))))))))))))))))))))))))))))))))))))))))))))))))))))))))))))))))))))))))
set_option maxHeartbeats 4000000 in
set_option maxRecDepth 100000 in
theorem m_L_law_L23 {G : jG} {Z0 : jZ} {xs : Nat → Int32} {Ls b : Nat} (E : jE G cL_law RL (Cond.arrayClass .byte :: jT) 8 (some .boolean) room_1 jRL) (hX : va_X b Ls xs (gS G) (gS G).heap ∧ b < (gS G).heap.size ∧ ¬ gA G b) (hV : jV (gA G) (gS G) (gS G).heap) (hl0 : (gL G).stackTraces = false) : ∀ (n k9 n9 : Nat) (v1 : Nat) (v2 : Nat) (v3 : Nat) (v4 : Int32) (Z : jZ) (I : jI) (L : jL), k9 + 27 * n ≤ 600002 → n9 + 600 * n ≤ 7302232 → SH Z → jext Z0 Z → jk Z v1 11 → jk Z v2 12 → jk Z v3 15 → f_L_law_L23 xs Ls n v1 v2 v3 v4 Z I L → jJ G 8 23 [(0, .ref b), (1, .ref v1), (2, .ref v2), (3, .ref v3), (4, .int v4)] [] Z I L (k9 + 0) (n9 + 0) := by
  intro n
  induction n with
  | zero => intro k9 n9 v1 v2 v3 v4 Z I L _ _ _ _ _ _ _ h; exact h.elim
  | succ n ih =>
    intro k9 n9 v1 v2 v3 v4 Z I L q1 q2 hZ hx kv1 kv2 kv3 h
    have hb9 : k9 + 27 ≤ 600002 := by omega
    have hn9 : n9 + 600 ≤ 7302232 := by omega
    have hK23 : ∀ (v1 : Nat) (v2 : Nat) (v3 : Nat) (v4 : Int32) (Z : jZ) (I : jI) (L : jL), SH Z → jext Z0 Z → jk Z v1 11 → jk Z v2 12 → jk Z v3 15 → f_L_law_L23 xs Ls n v1 v2 v3 v4 Z I L → jJ G 8 23 [(0, .ref b), (1, .ref v1), (2, .ref v2), (3, .ref v3), (4, .int v4)] [] Z I L (k9 + 27) (n9 + 600) := fun xv1 xv2 xv3 xv4 Z I L a1 a2 av1 av2 av3 h9 => ih (k9 + 27) (n9 + 600) xv1 xv2 xv3 xv4 Z I L (by omega) (by omega) a1 a2 av1 av2 av3 h9
    have h : ((((Int32.ofNat Ls) - (6 : Int32)) < v4 → True) ∧ (¬ (((Int32.ofNat Ls) - (6 : Int32)) < v4) → (vp_in v4 Ls ∧ ((((xs v4.toNatClampNeg) &&& (63 : Int32)) = 0 → f_L_law_b244 xs Ls (f_L_law_L23 xs Ls n) v1 v2 v3 v4 Z I L) ∧ (¬ ((xs v4.toNatClampNeg) &&& (63 : Int32)) = 0 → ((((xs v4.toNatClampNeg) &&& (63 : Int32)) = 1 → f_L_law_b269 xs Ls (f_L_law_L23 xs Ls n) v1 v2 v3 v4 Z I L) ∧ (¬ ((xs v4.toNatClampNeg) &&& (63 : Int32)) = 1 → ((((xs v4.toNatClampNeg) &&& (63 : Int32)) = 2 → f_L_law_b294 xs Ls (f_L_law_L23 xs Ls n) v1 v2 v3 v4 Z I L) ∧ (¬ ((xs v4.toNatClampNeg) &&& (63 : Int32)) = 2 → ((((xs v4.toNatClampNeg) &&& (63 : Int32)) = 3 → f_L_law_b307 xs Ls (f_L_law_L23 xs Ls n) v1 v2 v3 v4 Z I L) ∧ (¬ ((xs v4.toNatClampNeg) &&& (63 : Int32)) = 3 → ((((xs v4.toNatClampNeg) &&& (63 : Int32)) = 4 → f_L_law_b332 xs Ls (f_L_law_L23 xs Ls n) v1 v2 v3 v4 Z I L) ∧ (¬ ((xs v4.toNatClampNeg) &&& (63 : Int32)) = 4 → ((((xs v4.toNatClampNeg) &&& (63 : Int32)) = 5 → f_L_law_b400 xs Ls (f_L_law_L23 xs Ls n) v1 v2 v3 v4 Z I L) ∧ (¬ ((xs v4.toNatClampNeg) &&& (63 : Int32)) = 5 → ((((xs v4.toNatClampNeg) &&& (63 : Int32)) = 6 → f_L_law_b449 xs Ls (f_L_law_L23 xs Ls n) v1 v2 v3 v4 Z I L) ∧ (¬ ((xs v4.toNatClampNeg) &&& (63 : Int32)) = 6 → ((((xs v4.toNatClampNeg) &&& (63 : Int32)) = 7 → f_L_law_b510 xs Ls (f_L_law_L23 xs Ls n) v1 v2 v3 v4 Z I L) ∧ (¬ ((xs v4.toNatClampNeg) &&& (63 : Int32)) = 7 → ((((xs v4.toNatClampNeg) &&& (63 : Int32)) = 8 → f_L_law_b575 xs Ls (f_L_law_L23 xs Ls n) v1 v2 v3 v4 Z I L) ∧ (¬ ((xs v4.toNatClampNeg) &&& (63 : Int32)) = 8 → ((((xs v4.toNatClampNeg) &&& (63 : Int32)) = 9 → f_L_law_b600 xs Ls (f_L_law_L23 xs Ls n) v1 v2 v3 v4 Z I L) ∧ (¬ ((xs v4.toNatClampNeg) &&& (63 : Int32)) = 9 → ((((xs v4.toNatClampNeg) &&& (63 : Int32)) = 10 → f_L_law_b661 xs Ls (f_L_law_L23 xs Ls n) v1 v2 v3 v4 Z I L) ∧ (¬ ((xs v4.toNatClampNeg) &&& (63 : Int32)) = 10 → ((((xs v4.toNatClampNeg) &&& (63 : Int32)) = 11 → f_L_law_b698 xs Ls (f_L_law_L23 xs Ls n) v1 v2 v3 v4 Z I L) ∧ (¬ ((xs v4.toNatClampNeg) &&& (63 : Int32)) = 11 → ((((xs v4.toNatClampNeg) &&& (63 : Int32)) = 12 → f_L_law_b766 xs Ls (f_L_law_L23 xs Ls n) v1 v2 v3 v4 Z I L) ∧ (¬ ((xs v4.toNatClampNeg) &&& (63 : Int32)) = 12 → ((((xs v4.toNatClampNeg) &&& (63 : Int32)) = 13 → f_L_law_b803 xs Ls (f_L_law_L23 xs Ls n) v1 v2 v3 v4 Z I L) ∧ (¬ ((xs v4.toNatClampNeg) &&& (63 : Int32)) = 13 → ((((xs v4.toNatClampNeg) &&& (63 : Int32)) = 14 → f_L_law_b840 xs Ls (f_L_law_L23 xs Ls n) v1 v2 v3 v4 Z I L) ∧ (¬ ((xs v4.toNatClampNeg) &&& (63 : Int32)) = 14 → ((((xs v4.toNatClampNeg) &&& (63 : Int32)) = 15 → f_L_law_b877 xs Ls (f_L_law_L23 xs Ls n) v1 v2 v3 v4 Z I L) ∧ (¬ ((xs v4.toNatClampNeg) &&& (63 : Int32)) = 15 → ((((xs v4.toNatClampNeg) &&& (63 : Int32)) = 16 → f_L_law_b902 xs Ls (f_L_law_L23 xs Ls n) v1 v2 v3 v4 Z I L) ∧ (¬ ((xs v4.toNatClampNeg) &&& (63 : Int32)) = 16 → ((((xs v4.toNatClampNeg) &&& (63 : Int32)) = 17 → f_L_law_b927 xs Ls (f_L_law_L23 xs Ls n) v1 v2 v3 v4 Z I L) ∧ (¬ ((xs v4.toNatClampNeg) &&& (63 : Int32)) = 17 → ((((xs v4.toNatClampNeg) &&& (63 : Int32)) = 18 → f_L_law_b952 xs Ls (f_L_law_L23 xs Ls n) v1 v2 v3 v4 Z I L) ∧ (¬ ((xs v4.toNatClampNeg) &&& (63 : Int32)) = 18 → ((((xs v4.toNatClampNeg) &&& (63 : Int32)) = 19 → f_L_law_b977 xs Ls (f_L_law_L23 xs Ls n) v1 v2 v3 v4 Z I L) ∧ (¬ ((xs v4.toNatClampNeg) &&& (63 : Int32)) = 19 → ((((xs v4.toNatClampNeg) &&& (63 : Int32)) = 20 → f_L_law_b1015 xs Ls (f_L_law_L23 xs Ls n) v1 v2 v3 v4 Z I L) ∧ (¬ ((xs v4.toNatClampNeg) &&& (63 : Int32)) = 20 → ((((xs v4.toNatClampNeg) &&& (63 : Int32)) = 21 → f_L_law_b1064 xs Ls (f_L_law_L23 xs Ls n) v1 v2 v3 v4 Z I L) ∧ (¬ ((xs v4.toNatClampNeg) &&& (63 : Int32)) = 21 → ((((xs v4.toNatClampNeg) &&& (63 : Int32)) = 22 → f_L_law_b1101 xs Ls (f_L_law_L23 xs Ls n) v1 v2 v3 v4 Z I L) ∧ (¬ ((xs v4.toNatClampNeg) &&& (63 : Int32)) = 22 → ((((xs v4.toNatClampNeg) &&& (63 : Int32)) = 23 → f_L_law_b1138 xs Ls (f_L_law_L23 xs Ls n) v1 v2 v3 v4 Z I L) ∧ (¬ ((xs v4.toNatClampNeg) &&& (63 : Int32)) = 23 → ((((xs v4.toNatClampNeg) &&& (63 : Int32)) = 24 → f_L_law_b1163 xs Ls (f_L_law_L23 xs Ls n) v1 v2 v3 v4 Z I L) ∧ (¬ ((xs v4.toNatClampNeg) &&& (63 : Int32)) = 24 → ((((xs v4.toNatClampNeg) &&& (63 : Int32)) = 25 → f_L_law_b1188 xs Ls (f_L_law_L23 xs Ls n) v1 v2 v3 v4 Z I L) ∧ (¬ ((xs v4.toNatClampNeg) &&& (63 : Int32)) = 25 → ((((xs v4.toNatClampNeg) &&& (63 : Int32)) = 26 → f_L_law_b1201 xs Ls (f_L_law_L23 xs Ls n) v1 v2 v3 v4 Z I L) ∧ (¬ ((xs v4.toNatClampNeg) &&& (63 : Int32)) = 26 → ((((xs v4.toNatClampNeg) &&& (63 : Int32)) = 27 → f_L_law_b1226 xs Ls (f_L_law_L23 xs Ls n) v1 v2 v3 v4 Z I L) ∧ (¬ ((xs v4.toNatClampNeg) &&& (63 : Int32)) = 27 → ((((xs v4.toNatClampNeg) &&& (63 : Int32)) = 28 → f_L_law_b1251 xs Ls (f_L_law_L23 xs Ls n) v1 v2 v3 v4 Z I L) ∧ (¬ ((xs v4.toNatClampNeg) &&& (63 : Int32)) = 28 → ((((xs v4.toNatClampNeg) &&& (63 : Int32)) = 29 → f_L_law_b1276 xs Ls (f_L_law_L23 xs Ls n) v1 v2 v3 v4 Z I L) ∧ (¬ ((xs v4.toNatClampNeg) &&& (63 : Int32)) = 29 → ((((xs v4.toNatClampNeg) &&& (63 : Int32)) = 30 → f_L_law_b1301 xs Ls (f_L_law_L23 xs Ls n) v1 v2 v3 v4 Z I L) ∧ (¬ ((xs v4.toNatClampNeg) &&& (63 : Int32)) = 30 → ((((xs v4.toNatClampNeg) &&& (63 : Int32)) = 31 → f_L_law_b1314 xs Ls (f_L_law_L23 xs Ls n) v1 v2 v3 v4 Z I L) ∧ (¬ ((xs v4.toNatClampNeg) &&& (63 : Int32)) = 31 → ((((xs v4.toNatClampNeg) &&& (63 : Int32)) = 32 → f_L_law_b1339 xs Ls (f_L_law_L23 xs Ls n) v1 v2 v3 v4 Z I L) ∧ (¬ ((xs v4.toNatClampNeg) &&& (63 : Int32)) = 32 → ((((xs v4.toNatClampNeg) &&& (63 : Int32)) = 33 → f_L_law_b1376 xs Ls (f_L_law_L23 xs Ls n) v1 v2 v3 v4 Z I L) ∧ (¬ ((xs v4.toNatClampNeg) &&& (63 : Int32)) = 33 → ((((xs v4.toNatClampNeg) &&& (63 : Int32)) = 34 → f_L_law_b1401 xs Ls (f_L_law_L23 xs Ls n) v1 v2 v3 v4 Z I L) ∧ (¬ ((xs v4.toNatClampNeg) &&& (63 : Int32)) = 34 → ((((xs v4.toNatClampNeg) &&& (63 : Int32)) = 35 → f_L_law_b1426 xs Ls (f_L_law_L23 xs Ls n) v1 v2 v3 v4 Z I L) ∧ (¬ ((xs v4.toNatClampNeg) &&& (63 : Int32)) = 35 → ((((xs v4.toNatClampNeg) &&& (63 : Int32)) = 36 → f_L_law_b1463 xs Ls (f_L_law_L23 xs Ls n) v1 v2 v3 v4 Z I L) ∧ (¬ ((xs v4.toNatClampNeg) &&& (63 : Int32)) = 36 → ((((xs v4.toNatClampNeg) &&& (63 : Int32)) = 37 → f_L_law_b1536 xs Ls (f_L_law_L23 xs Ls n) v1 v2 v3 v4 Z I L) ∧ (¬ ((xs v4.toNatClampNeg) &&& (63 : Int32)) = 37 → ((((xs v4.toNatClampNeg) &&& (63 : Int32)) = 38 → f_L_law_b1573 xs Ls (f_L_law_L23 xs Ls n) v1 v2 v3 v4 Z I L) ∧ (¬ ((xs v4.toNatClampNeg) &&& (63 : Int32)) = 38 → ((((xs v4.toNatClampNeg) &&& (63 : Int32)) = 39 → f_L_law_b1586 xs Ls (f_L_law_L23 xs Ls n) v1 v2 v3 v4 Z I L) ∧ (¬ ((xs v4.toNatClampNeg) &&& (63 : Int32)) = 39 → ((((xs v4.toNatClampNeg) &&& (63 : Int32)) = 40 → f_L_law_b1611 xs Ls (f_L_law_L23 xs Ls n) v1 v2 v3 v4 Z I L) ∧ (¬ ((xs v4.toNatClampNeg) &&& (63 : Int32)) = 40 → ((((xs v4.toNatClampNeg) &&& (63 : Int32)) = 41 → f_L_law_b1648 xs Ls (f_L_law_L23 xs Ls n) v1 v2 v3 v4 Z I L) ∧ (¬ ((xs v4.toNatClampNeg) &&& (63 : Int32)) = 41 → ((((xs v4.toNatClampNeg) &&& (63 : Int32)) = 42 → f_L_law_b1673 xs Ls (f_L_law_L23 xs Ls n) v1 v2 v3 v4 Z I L) ∧ (¬ ((xs v4.toNatClampNeg) &&& (63 : Int32)) = 42 → ((((xs v4.toNatClampNeg) &&& (63 : Int32)) = 43 → f_L_law_b1686 xs Ls (f_L_law_L23 xs Ls n) v1 v2 v3 v4 Z I L) ∧ (¬ ((xs v4.toNatClampNeg) &&& (63 : Int32)) = 43 → ((((xs v4.toNatClampNeg) &&& (63 : Int32)) = 44 → f_L_law_b1711 xs Ls (f_L_law_L23 xs Ls n) v1 v2 v3 v4 Z I L) ∧ (¬ ((xs v4.toNatClampNeg) &&& (63 : Int32)) = 44 → ((((xs v4.toNatClampNeg) &&& (63 : Int32)) = 45 → f_L_law_b1736 xs Ls (f_L_law_L23 xs Ls n) v1 v2 v3 v4 Z I L) ∧ (¬ ((xs v4.toNatClampNeg) &&& (63 : Int32)) = 45 → ((((xs v4.toNatClampNeg) &&& (63 : Int32)) = 46 → f_L_law_b1761 xs Ls (f_L_law_L23 xs Ls n) v1 v2 v3 v4 Z I L) ∧ (¬ ((xs v4.toNatClampNeg) &&& (63 : Int32)) = 46 → f_L_law_b1816 xs Ls (f_L_law_L23 xs Ls n) v1 v2 v3 v4 Z I L))))))))))))))))))))))))))))))))))))))))))))))))))))))))))))))))))))))))))))))))))))))))))))))))) := h
    generalize f_L_law_L23 xs Ls n = K23 at hK23 h
    refine j_iload E dL_law_23 4 rfl ?_
    refine j_aload_n E dL_law_25 0 rfl ?_
    refine j_slen E hX.1 hX.2.1 hX.2.2 dL_law_26 ?_
    refine j_bipush E (v := 6) dL_law_27 (by decide) ?_
    refine j_isub E dL_law_29 ?_
    refine j_icmp_gt E 1822 dL_law_30 (by decide) (fun c910 => ?_) (fun c910 => ?_)
    · have h := h.1 c910
      refine j_iconst E (v := 1) dL_law_1822 (by decide) ?_
      exact j_zreturn E (Or.inr rfl) rfl (by show k9 + 0 ≤ 600002; omega) (by show n9 + 0 ≤ 7302232; omega) dL_law_1823
    · have h := h.2 c910
      refine j_aload_n E dL_law_33 0 rfl ?_
      refine j_iload E dL_law_34 4 rfl ?_
      obtain ⟨o911, h⟩ := h
      refine j_sld E hX.1 hX.2.1 hX.2.2 o911 dL_law_36 ?_
      refine j_bipush E (v := 63) dL_law_37 (by decide) ?_
      refine j_iand E dL_law_39 ?_
      by_cases c912 : ((xs v4.toNatClampNeg) &&& (63 : Int32)) = 0
      · have h := h.1 c912
        refine j_tableIn E (204) 244 dL_law_40 (by rw [c912]; decide) (by rw [c912]; decide) (by rw [c912]; rfl) (by decide) ?_
        refine j_sub [0, 1, 2, 3, 4] rfl ?_
        exact m_L_law_b244 E hX hV hl0 hb9 hn9 K23 hK23 v1 v2 v3 v4 Z I L hZ hx kv1 kv2 kv3 h
      · have h := h.2 c912
        by_cases c913 : ((xs v4.toNatClampNeg) &&& (63 : Int32)) = 1
        · have h := h.1 c913
          refine j_tableIn E (229) 269 dL_law_40 (by rw [c913]; decide) (by rw [c913]; decide) (by rw [c913]; rfl) (by decide) ?_
          refine j_sub [0, 1, 2, 3, 4] rfl ?_
          exact m_L_law_b269 E hX hV hl0 hb9 hn9 K23 hK23 v1 v2 v3 v4 Z I L hZ hx kv1 kv2 kv3 h
        · have h := h.2 c913
          by_cases c914 : ((xs v4.toNatClampNeg) &&& (63 : Int32)) = 2
          · have h := h.1 c914
            refine j_tableIn E (254) 294 dL_law_40 (by rw [c914]; decide) (by rw [c914]; decide) (by rw [c914]; rfl) (by decide) ?_
            refine j_sub [0, 1, 2, 3, 4] rfl ?_
            exact m_L_law_b294 E hX hV hl0 hb9 hn9 K23 hK23 v1 v2 v3 v4 Z I L hZ hx kv1 kv2 kv3 h
          · have h := h.2 c914
            by_cases c915 : ((xs v4.toNatClampNeg) &&& (63 : Int32)) = 3
            · have h := h.1 c915
              refine j_tableIn E (267) 307 dL_law_40 (by rw [c915]; decide) (by rw [c915]; decide) (by rw [c915]; rfl) (by decide) ?_
              refine j_sub [0, 1, 2, 3, 4] rfl ?_
              exact m_L_law_b307 E hX hV hl0 hb9 hn9 K23 hK23 v1 v2 v3 v4 Z I L hZ hx kv1 kv2 kv3 h
            · have h := h.2 c915
              by_cases c916 : ((xs v4.toNatClampNeg) &&& (63 : Int32)) = 4
              · have h := h.1 c916
                refine j_tableIn E (292) 332 dL_law_40 (by rw [c916]; decide) (by rw [c916]; decide) (by rw [c916]; rfl) (by decide) ?_
                refine j_sub [0, 1, 2, 3, 4] rfl ?_
                exact m_L_law_b332 E hX hV hl0 hb9 hn9 K23 hK23 v1 v2 v3 v4 Z I L hZ hx kv1 kv2 kv3 h
              · have h := h.2 c916
                by_cases c917 : ((xs v4.toNatClampNeg) &&& (63 : Int32)) = 5
                · have h := h.1 c917
                  refine j_tableIn E (360) 400 dL_law_40 (by rw [c917]; decide) (by rw [c917]; decide) (by rw [c917]; rfl) (by decide) ?_
                  refine j_sub [0, 1, 2, 3, 4] rfl ?_
                  exact m_L_law_b400 E hX hV hl0 hb9 hn9 K23 hK23 v1 v2 v3 v4 Z I L hZ hx kv1 kv2 kv3 h
                · have h := h.2 c917
                  by_cases c918 : ((xs v4.toNatClampNeg) &&& (63 : Int32)) = 6
                  · have h := h.1 c918
                    refine j_tableIn E (409) 449 dL_law_40 (by rw [c918]; decide) (by rw [c918]; decide) (by rw [c918]; rfl) (by decide) ?_
                    refine j_sub [0, 1, 2, 3, 4] rfl ?_
                    exact m_L_law_b449 E hX hV hl0 hb9 hn9 K23 hK23 v1 v2 v3 v4 Z I L hZ hx kv1 kv2 kv3 h
                  · have h := h.2 c918
                    by_cases c919 : ((xs v4.toNatClampNeg) &&& (63 : Int32)) = 7
                    · have h := h.1 c919
                      refine j_tableIn E (470) 510 dL_law_40 (by rw [c919]; decide) (by rw [c919]; decide) (by rw [c919]; rfl) (by decide) ?_
                      refine j_sub [0, 1, 2, 3, 4] rfl ?_
                      exact m_L_law_b510 E hX hV hl0 hb9 hn9 K23 hK23 v1 v2 v3 v4 Z I L hZ hx kv1 kv2 kv3 h
                    · have h := h.2 c919
                      by_cases c920 : ((xs v4.toNatClampNeg) &&& (63 : Int32)) = 8
                      · have h := h.1 c920
                        refine j_tableIn E (535) 575 dL_law_40 (by rw [c920]; decide) (by rw [c920]; decide) (by rw [c920]; rfl) (by decide) ?_
                        refine j_sub [0, 1, 2, 3, 4] rfl ?_
                        exact m_L_law_b575 E hX hV hl0 hb9 hn9 K23 hK23 v1 v2 v3 v4 Z I L hZ hx kv1 kv2 kv3 h
                      · have h := h.2 c920
                        by_cases c921 : ((xs v4.toNatClampNeg) &&& (63 : Int32)) = 9
                        · have h := h.1 c921
                          refine j_tableIn E (560) 600 dL_law_40 (by rw [c921]; decide) (by rw [c921]; decide) (by rw [c921]; rfl) (by decide) ?_
                          refine j_sub [0, 1, 2, 3, 4] rfl ?_
                          exact m_L_law_b600 E hX hV hl0 hb9 hn9 K23 hK23 v1 v2 v3 v4 Z I L hZ hx kv1 kv2 kv3 h
                        · have h := h.2 c921
                          by_cases c922 : ((xs v4.toNatClampNeg) &&& (63 : Int32)) = 10
                          · have h := h.1 c922
                            refine j_tableIn E (621) 661 dL_law_40 (by rw [c922]; decide) (by rw [c922]; decide) (by rw [c922]; rfl) (by decide) ?_
                            refine j_sub [0, 1, 2, 3, 4] rfl ?_
                            exact m_L_law_b661 E hX hV hl0 hb9 hn9 K23 hK23 v1 v2 v3 v4 Z I L hZ hx kv1 kv2 kv3 h
                          · have h := h.2 c922
                            by_cases c923 : ((xs v4.toNatClampNeg) &&& (63 : Int32)) = 11
                            · have h := h.1 c923
                              refine j_tableIn E (658) 698 dL_law_40 (by rw [c923]; decide) (by rw [c923]; decide) (by rw [c923]; rfl) (by decide) ?_
                              refine j_sub [0, 1, 2, 3, 4] rfl ?_
                              exact m_L_law_b698 E hX hV hl0 hb9 hn9 K23 hK23 v1 v2 v3 v4 Z I L hZ hx kv1 kv2 kv3 h
                            · have h := h.2 c923
                              by_cases c924 : ((xs v4.toNatClampNeg) &&& (63 : Int32)) = 12
                              · have h := h.1 c924
                                refine j_tableIn E (726) 766 dL_law_40 (by rw [c924]; decide) (by rw [c924]; decide) (by rw [c924]; rfl) (by decide) ?_
                                refine j_sub [0, 1, 2, 3, 4] rfl ?_
                                exact m_L_law_b766 E hX hV hl0 hb9 hn9 K23 hK23 v1 v2 v3 v4 Z I L hZ hx kv1 kv2 kv3 h
                              · have h := h.2 c924
                                by_cases c925 : ((xs v4.toNatClampNeg) &&& (63 : Int32)) = 13
                                · have h := h.1 c925
                                  refine j_tableIn E (763) 803 dL_law_40 (by rw [c925]; decide) (by rw [c925]; decide) (by rw [c925]; rfl) (by decide) ?_
                                  refine j_sub [0, 1, 2, 3, 4] rfl ?_
                                  exact m_L_law_b803 E hX hV hl0 hb9 hn9 K23 hK23 v1 v2 v3 v4 Z I L hZ hx kv1 kv2 kv3 h
                                · have h := h.2 c925
                                  by_cases c926 : ((xs v4.toNatClampNeg) &&& (63 : Int32)) = 14
                                  · have h := h.1 c926
                                    refine j_tableIn E (800) 840 dL_law_40 (by rw [c926]; decide) (by rw [c926]; decide) (by rw [c926]; rfl) (by decide) ?_
                                    refine j_sub [0, 1, 2, 3, 4] rfl ?_
                                    exact m_L_law_b840 E hX hV hl0 hb9 hn9 K23 hK23 v1 v2 v3 v4 Z I L hZ hx kv1 kv2 kv3 h
                                  · have h := h.2 c926
                                    by_cases c927 : ((xs v4.toNatClampNeg) &&& (63 : Int32)) = 15
                                    · have h := h.1 c927
                                      refine j_tableIn E (837) 877 dL_law_40 (by rw [c927]; decide) (by rw [c927]; decide) (by rw [c927]; rfl) (by decide) ?_
                                      refine j_sub [0, 1, 2, 3, 4] rfl ?_
                                      exact m_L_law_b877 E hX hV hl0 hb9 hn9 K23 hK23 v1 v2 v3 v4 Z I L hZ hx kv1 kv2 kv3 h
                                    · have h := h.2 c927
                                      by_cases c928 : ((xs v4.toNatClampNeg) &&& (63 : Int32)) = 16
                                      · have h := h.1 c928
                                        refine j_tableIn E (862) 902 dL_law_40 (by rw [c928]; decide) (by rw [c928]; decide) (by rw [c928]; rfl) (by decide) ?_
                                        refine j_sub [0, 1, 2, 3, 4] rfl ?_
                                        exact m_L_law_b902 E hX hV hl0 hb9 hn9 K23 hK23 v1 v2 v3 v4 Z I L hZ hx kv1 kv2 kv3 h
                                      · have h := h.2 c928
                                        by_cases c929 : ((xs v4.toNatClampNeg) &&& (63 : Int32)) = 17
                                        · have h := h.1 c929
                                          refine j_tableIn E (887) 927 dL_law_40 (by rw [c929]; decide) (by rw [c929]; decide) (by rw [c929]; rfl) (by decide) ?_
                                          refine j_sub [0, 1, 2, 3, 4] rfl ?_
                                          exact m_L_law_b927 E hX hV hl0 hb9 hn9 K23 hK23 v1 v2 v3 v4 Z I L hZ hx kv1 kv2 kv3 h
                                        · have h := h.2 c929
                                          by_cases c930 : ((xs v4.toNatClampNeg) &&& (63 : Int32)) = 18
                                          · have h := h.1 c930
                                            refine j_tableIn E (912) 952 dL_law_40 (by rw [c930]; decide) (by rw [c930]; decide) (by rw [c930]; rfl) (by decide) ?_
                                            refine j_sub [0, 1, 2, 3, 4] rfl ?_
                                            exact m_L_law_b952 E hX hV hl0 hb9 hn9 K23 hK23 v1 v2 v3 v4 Z I L hZ hx kv1 kv2 kv3 h
                                          · have h := h.2 c930
                                            by_cases c931 : ((xs v4.toNatClampNeg) &&& (63 : Int32)) = 19
                                            · have h := h.1 c931
                                              refine j_tableIn E (937) 977 dL_law_40 (by rw [c931]; decide) (by rw [c931]; decide) (by rw [c931]; rfl) (by decide) ?_
                                              refine j_sub [0, 1, 2, 3, 4] rfl ?_
                                              exact m_L_law_b977 E hX hV hl0 hb9 hn9 K23 hK23 v1 v2 v3 v4 Z I L hZ hx kv1 kv2 kv3 h
                                            · have h := h.2 c931
                                              by_cases c932 : ((xs v4.toNatClampNeg) &&& (63 : Int32)) = 20
                                              · have h := h.1 c932
                                                refine j_tableIn E (975) 1015 dL_law_40 (by rw [c932]; decide) (by rw [c932]; decide) (by rw [c932]; rfl) (by decide) ?_
                                                refine j_sub [0, 1, 2, 3, 4] rfl ?_
                                                exact m_L_law_b1015 E hX hV hl0 hb9 hn9 K23 hK23 v1 v2 v3 v4 Z I L hZ hx kv1 kv2 kv3 h
                                              · have h := h.2 c932
                                                by_cases c933 : ((xs v4.toNatClampNeg) &&& (63 : Int32)) = 21
                                                · have h := h.1 c933
                                                  refine j_tableIn E (1024) 1064 dL_law_40 (by rw [c933]; decide) (by rw [c933]; decide) (by rw [c933]; rfl) (by decide) ?_
                                                  refine j_sub [0, 1, 2, 3, 4] rfl ?_
                                                  exact m_L_law_b1064 E hX hV hl0 hb9 hn9 K23 hK23 v1 v2 v3 v4 Z I L hZ hx kv1 kv2 kv3 h
                                                · have h := h.2 c933
                                                  by_cases c934 : ((xs v4.toNatClampNeg) &&& (63 : Int32)) = 22
                                                  · have h := h.1 c934
                                                    refine j_tableIn E (1061) 1101 dL_law_40 (by rw [c934]; decide) (by rw [c934]; decide) (by rw [c934]; rfl) (by decide) ?_
                                                    refine j_sub [0, 1, 2, 3, 4] rfl ?_
                                                    exact m_L_law_b1101 E hX hV hl0 hb9 hn9 K23 hK23 v1 v2 v3 v4 Z I L hZ hx kv1 kv2 kv3 h
                                                  · have h := h.2 c934
                                                    by_cases c935 : ((xs v4.toNatClampNeg) &&& (63 : Int32)) = 23
                                                    · have h := h.1 c935
                                                      refine j_tableIn E (1098) 1138 dL_law_40 (by rw [c935]; decide) (by rw [c935]; decide) (by rw [c935]; rfl) (by decide) ?_
                                                      refine j_sub [0, 1, 2, 3, 4] rfl ?_
                                                      exact m_L_law_b1138 E hX hV hl0 hb9 hn9 K23 hK23 v1 v2 v3 v4 Z I L hZ hx kv1 kv2 kv3 h
                                                    · have h := h.2 c935
                                                      by_cases c936 : ((xs v4.toNatClampNeg) &&& (63 : Int32)) = 24
                                                      · have h := h.1 c936
                                                        refine j_tableIn E (1123) 1163 dL_law_40 (by rw [c936]; decide) (by rw [c936]; decide) (by rw [c936]; rfl) (by decide) ?_
                                                        refine j_sub [0, 1, 2, 3, 4] rfl ?_
                                                        exact m_L_law_b1163 E hX hV hl0 hb9 hn9 K23 hK23 v1 v2 v3 v4 Z I L hZ hx kv1 kv2 kv3 h
                                                      · have h := h.2 c936
                                                        by_cases c937 : ((xs v4.toNatClampNeg) &&& (63 : Int32)) = 25
                                                        · have h := h.1 c937
                                                          refine j_tableIn E (1148) 1188 dL_law_40 (by rw [c937]; decide) (by rw [c937]; decide) (by rw [c937]; rfl) (by decide) ?_
                                                          refine j_sub [0, 1, 2, 3, 4] rfl ?_
                                                          exact m_L_law_b1188 E hX hV hl0 hb9 hn9 K23 hK23 v1 v2 v3 v4 Z I L hZ hx kv1 kv2 kv3 h
                                                        · have h := h.2 c937
                                                          by_cases c938 : ((xs v4.toNatClampNeg) &&& (63 : Int32)) = 26
                                                          · have h := h.1 c938
                                                            refine j_tableIn E (1161) 1201 dL_law_40 (by rw [c938]; decide) (by rw [c938]; decide) (by rw [c938]; rfl) (by decide) ?_
                                                            refine j_sub [0, 1, 2, 3, 4] rfl ?_
                                                            exact m_L_law_b1201 E hX hV hl0 hb9 hn9 K23 hK23 v1 v2 v3 v4 Z I L hZ hx kv1 kv2 kv3 h
                                                          · have h := h.2 c938
                                                            by_cases c939 : ((xs v4.toNatClampNeg) &&& (63 : Int32)) = 27
                                                            · have h := h.1 c939
                                                              refine j_tableIn E (1186) 1226 dL_law_40 (by rw [c939]; decide) (by rw [c939]; decide) (by rw [c939]; rfl) (by decide) ?_
                                                              refine j_sub [0, 1, 2, 3, 4] rfl ?_
                                                              exact m_L_law_b1226 E hX hV hl0 hb9 hn9 K23 hK23 v1 v2 v3 v4 Z I L hZ hx kv1 kv2 kv3 h
                                                            · have h := h.2 c939
                                                              by_cases c940 : ((xs v4.toNatClampNeg) &&& (63 : Int32)) = 28
                                                              · have h := h.1 c940
                                                                refine j_tableIn E (1211) 1251 dL_law_40 (by rw [c940]; decide) (by rw [c940]; decide) (by rw [c940]; rfl) (by decide) ?_
                                                                refine j_sub [0, 1, 2, 3, 4] rfl ?_
                                                                exact m_L_law_b1251 E hX hV hl0 hb9 hn9 K23 hK23 v1 v2 v3 v4 Z I L hZ hx kv1 kv2 kv3 h
                                                              · have h := h.2 c940
                                                                by_cases c941 : ((xs v4.toNatClampNeg) &&& (63 : Int32)) = 29
                                                                · have h := h.1 c941
                                                                  refine j_tableIn E (1236) 1276 dL_law_40 (by rw [c941]; decide) (by rw [c941]; decide) (by rw [c941]; rfl) (by decide) ?_
                                                                  refine j_sub [0, 1, 2, 3, 4] rfl ?_
                                                                  exact m_L_law_b1276 E hX hV hl0 hb9 hn9 K23 hK23 v1 v2 v3 v4 Z I L hZ hx kv1 kv2 kv3 h
                                                                · have h := h.2 c941
                                                                  by_cases c942 : ((xs v4.toNatClampNeg) &&& (63 : Int32)) = 30
                                                                  · have h := h.1 c942
                                                                    refine j_tableIn E (1261) 1301 dL_law_40 (by rw [c942]; decide) (by rw [c942]; decide) (by rw [c942]; rfl) (by decide) ?_
                                                                    refine j_sub [0, 1, 2, 3, 4] rfl ?_
                                                                    exact m_L_law_b1301 E hX hV hl0 hb9 hn9 K23 hK23 v1 v2 v3 v4 Z I L hZ hx kv1 kv2 kv3 h
                                                                  · have h := h.2 c942
                                                                    by_cases c943 : ((xs v4.toNatClampNeg) &&& (63 : Int32)) = 31
                                                                    · have h := h.1 c943
                                                                      refine j_tableIn E (1274) 1314 dL_law_40 (by rw [c943]; decide) (by rw [c943]; decide) (by rw [c943]; rfl) (by decide) ?_
                                                                      refine j_sub [0, 1, 2, 3, 4] rfl ?_
                                                                      exact m_L_law_b1314 E hX hV hl0 hb9 hn9 K23 hK23 v1 v2 v3 v4 Z I L hZ hx kv1 kv2 kv3 h
                                                                    · have h := h.2 c943
                                                                      by_cases c944 : ((xs v4.toNatClampNeg) &&& (63 : Int32)) = 32
                                                                      · have h := h.1 c944
                                                                        refine j_tableIn E (1299) 1339 dL_law_40 (by rw [c944]; decide) (by rw [c944]; decide) (by rw [c944]; rfl) (by decide) ?_
                                                                        refine j_sub [0, 1, 2, 3, 4] rfl ?_
                                                                        exact m_L_law_b1339 E hX hV hl0 hb9 hn9 K23 hK23 v1 v2 v3 v4 Z I L hZ hx kv1 kv2 kv3 h
                                                                      · have h := h.2 c944
                                                                        by_cases c945 : ((xs v4.toNatClampNeg) &&& (63 : Int32)) = 33
                                                                        · have h := h.1 c945
                                                                          refine j_tableIn E (1336) 1376 dL_law_40 (by rw [c945]; decide) (by rw [c945]; decide) (by rw [c945]; rfl) (by decide) ?_
                                                                          refine j_sub [0, 1, 2, 3, 4] rfl ?_
                                                                          exact m_L_law_b1376 E hX hV hl0 hb9 hn9 K23 hK23 v1 v2 v3 v4 Z I L hZ hx kv1 kv2 kv3 h
                                                                        · have h := h.2 c945
                                                                          by_cases c946 : ((xs v4.toNatClampNeg) &&& (63 : Int32)) = 34
                                                                          · have h := h.1 c946
                                                                            refine j_tableIn E (1361) 1401 dL_law_40 (by rw [c946]; decide) (by rw [c946]; decide) (by rw [c946]; rfl) (by decide) ?_
                                                                            refine j_sub [0, 1, 2, 3, 4] rfl ?_
                                                                            exact m_L_law_b1401 E hX hV hl0 hb9 hn9 K23 hK23 v1 v2 v3 v4 Z I L hZ hx kv1 kv2 kv3 h
                                                                          · have h := h.2 c946
                                                                            by_cases c947 : ((xs v4.toNatClampNeg) &&& (63 : Int32)) = 35
                                                                            · have h := h.1 c947
                                                                              refine j_tableIn E (1386) 1426 dL_law_40 (by rw [c947]; decide) (by rw [c947]; decide) (by rw [c947]; rfl) (by decide) ?_
                                                                              refine j_sub [0, 1, 2, 3, 4] rfl ?_
                                                                              exact m_L_law_b1426 E hX hV hl0 hb9 hn9 K23 hK23 v1 v2 v3 v4 Z I L hZ hx kv1 kv2 kv3 h
                                                                            · have h := h.2 c947
                                                                              by_cases c948 : ((xs v4.toNatClampNeg) &&& (63 : Int32)) = 36
                                                                              · have h := h.1 c948
                                                                                refine j_tableIn E (1423) 1463 dL_law_40 (by rw [c948]; decide) (by rw [c948]; decide) (by rw [c948]; rfl) (by decide) ?_
                                                                                refine j_sub [0, 1, 2, 3, 4] rfl ?_
                                                                                exact m_L_law_b1463 E hX hV hl0 hb9 hn9 K23 hK23 v1 v2 v3 v4 Z I L hZ hx kv1 kv2 kv3 h
                                                                              · have h := h.2 c948
                                                                                by_cases c949 : ((xs v4.toNatClampNeg) &&& (63 : Int32)) = 37
                                                                                · have h := h.1 c949
                                                                                  refine j_tableIn E (1496) 1536 dL_law_40 (by rw [c949]; decide) (by rw [c949]; decide) (by rw [c949]; rfl) (by decide) ?_
                                                                                  refine j_sub [0, 1, 2, 3, 4] rfl ?_
                                                                                  exact m_L_law_b1536 E hX hV hl0 hb9 hn9 K23 hK23 v1 v2 v3 v4 Z I L hZ hx kv1 kv2 kv3 h
                                                                                · have h := h.2 c949
                                                                                  by_cases c950 : ((xs v4.toNatClampNeg) &&& (63 : Int32)) = 38
                                                                                  · have h := h.1 c950
                                                                                    refine j_tableIn E (1533) 1573 dL_law_40 (by rw [c950]; decide) (by rw [c950]; decide) (by rw [c950]; rfl) (by decide) ?_
                                                                                    refine j_sub [0, 1, 2, 3, 4] rfl ?_
                                                                                    exact m_L_law_b1573 E hX hV hl0 hb9 hn9 K23 hK23 v1 v2 v3 v4 Z I L hZ hx kv1 kv2 kv3 h
                                                                                  · have h := h.2 c950
                                                                                    by_cases c951 : ((xs v4.toNatClampNeg) &&& (63 : Int32)) = 39
                                                                                    · have h := h.1 c951
                                                                                      refine j_tableIn E (1546) 1586 dL_law_40 (by rw [c951]; decide) (by rw [c951]; decide) (by rw [c951]; rfl) (by decide) ?_
                                                                                      refine j_sub [0, 1, 2, 3, 4] rfl ?_
                                                                                      exact m_L_law_b1586 E hX hV hl0 hb9 hn9 K23 hK23 v1 v2 v3 v4 Z I L hZ hx kv1 kv2 kv3 h
                                                                                    · have h := h.2 c951
                                                                                      by_cases c952 : ((xs v4.toNatClampNeg) &&& (63 : Int32)) = 40
                                                                                      · have h := h.1 c952
                                                                                        refine j_tableIn E (1571) 1611 dL_law_40 (by rw [c952]; decide) (by rw [c952]; decide) (by rw [c952]; rfl) (by decide) ?_
                                                                                        refine j_sub [0, 1, 2, 3, 4] rfl ?_
                                                                                        exact m_L_law_b1611 E hX hV hl0 hb9 hn9 K23 hK23 v1 v2 v3 v4 Z I L hZ hx kv1 kv2 kv3 h
                                                                                      · have h := h.2 c952
                                                                                        by_cases c953 : ((xs v4.toNatClampNeg) &&& (63 : Int32)) = 41
                                                                                        · have h := h.1 c953
                                                                                          refine j_tableIn E (1608) 1648 dL_law_40 (by rw [c953]; decide) (by rw [c953]; decide) (by rw [c953]; rfl) (by decide) ?_
                                                                                          refine j_sub [0, 1, 2, 3, 4] rfl ?_
                                                                                          exact m_L_law_b1648 E hX hV hl0 hb9 hn9 K23 hK23 v1 v2 v3 v4 Z I L hZ hx kv1 kv2 kv3 h
                                                                                        · have h := h.2 c953
                                                                                          by_cases c954 : ((xs v4.toNatClampNeg) &&& (63 : Int32)) = 42
                                                                                          · have h := h.1 c954
                                                                                            refine j_tableIn E (1633) 1673 dL_law_40 (by rw [c954]; decide) (by rw [c954]; decide) (by rw [c954]; rfl) (by decide) ?_
                                                                                            refine j_sub [0, 1, 2, 3, 4] rfl ?_
                                                                                            exact m_L_law_b1673 E hX hV hl0 hb9 hn9 K23 hK23 v1 v2 v3 v4 Z I L hZ hx kv1 kv2 kv3 h
                                                                                          · have h := h.2 c954
                                                                                            by_cases c955 : ((xs v4.toNatClampNeg) &&& (63 : Int32)) = 43
                                                                                            · have h := h.1 c955
                                                                                              refine j_tableIn E (1646) 1686 dL_law_40 (by rw [c955]; decide) (by rw [c955]; decide) (by rw [c955]; rfl) (by decide) ?_
                                                                                              refine j_sub [0, 1, 2, 3, 4] rfl ?_
                                                                                              exact m_L_law_b1686 E hX hV hl0 hb9 hn9 K23 hK23 v1 v2 v3 v4 Z I L hZ hx kv1 kv2 kv3 h
                                                                                            · have h := h.2 c955
                                                                                              by_cases c956 : ((xs v4.toNatClampNeg) &&& (63 : Int32)) = 44
                                                                                              · have h := h.1 c956
                                                                                                refine j_tableIn E (1671) 1711 dL_law_40 (by rw [c956]; decide) (by rw [c956]; decide) (by rw [c956]; rfl) (by decide) ?_
                                                                                                refine j_sub [0, 1, 2, 3, 4] rfl ?_
                                                                                                exact m_L_law_b1711 E hX hV hl0 hb9 hn9 K23 hK23 v1 v2 v3 v4 Z I L hZ hx kv1 kv2 kv3 h
                                                                                              · have h := h.2 c956
                                                                                                by_cases c957 : ((xs v4.toNatClampNeg) &&& (63 : Int32)) = 45
                                                                                                · have h := h.1 c957
                                                                                                  refine j_tableIn E (1696) 1736 dL_law_40 (by rw [c957]; decide) (by rw [c957]; decide) (by rw [c957]; rfl) (by decide) ?_
                                                                                                  refine j_sub [0, 1, 2, 3, 4] rfl ?_
                                                                                                  exact m_L_law_b1736 E hX hV hl0 hb9 hn9 K23 hK23 v1 v2 v3 v4 Z I L hZ hx kv1 kv2 kv3 h
                                                                                                · have h := h.2 c957
                                                                                                  by_cases c958 : ((xs v4.toNatClampNeg) &&& (63 : Int32)) = 46
                                                                                                  · have h := h.1 c958
                                                                                                    refine j_tableIn E (1721) 1761 dL_law_40 (by rw [c958]; decide) (by rw [c958]; decide) (by rw [c958]; rfl) (by decide) ?_
                                                                                                    refine j_sub [0, 1, 2, 3, 4] rfl ?_
                                                                                                    exact m_L_law_b1761 E hX hV hl0 hb9 hn9 K23 hK23 v1 v2 v3 v4 Z I L hZ hx kv1 kv2 kv3 h
                                                                                                  · have h := h.2 c958
                                                                                                    refine j_tableOut E 1816 dL_law_40 (by have tc912 := lv_neT (k := 0) (a := 0) c912 rfl; have tc913 := lv_neT (k := 1) (a := 1) c913 rfl; have tc914 := lv_neT (k := 2) (a := 2) c914 rfl; have tc915 := lv_neT (k := 3) (a := 3) c915 rfl; have tc916 := lv_neT (k := 4) (a := 4) c916 rfl; have tc917 := lv_neT (k := 5) (a := 5) c917 rfl; have tc918 := lv_neT (k := 6) (a := 6) c918 rfl; have tc919 := lv_neT (k := 7) (a := 7) c919 rfl; have tc920 := lv_neT (k := 8) (a := 8) c920 rfl; have tc921 := lv_neT (k := 9) (a := 9) c921 rfl; have tc922 := lv_neT (k := 10) (a := 10) c922 rfl; have tc923 := lv_neT (k := 11) (a := 11) c923 rfl; have tc924 := lv_neT (k := 12) (a := 12) c924 rfl; have tc925 := lv_neT (k := 13) (a := 13) c925 rfl; have tc926 := lv_neT (k := 14) (a := 14) c926 rfl; have tc927 := lv_neT (k := 15) (a := 15) c927 rfl; have tc928 := lv_neT (k := 16) (a := 16) c928 rfl; have tc929 := lv_neT (k := 17) (a := 17) c929 rfl; have tc930 := lv_neT (k := 18) (a := 18) c930 rfl; have tc931 := lv_neT (k := 19) (a := 19) c931 rfl; have tc932 := lv_neT (k := 20) (a := 20) c932 rfl; have tc933 := lv_neT (k := 21) (a := 21) c933 rfl; have tc934 := lv_neT (k := 22) (a := 22) c934 rfl; have tc935 := lv_neT (k := 23) (a := 23) c935 rfl; have tc936 := lv_neT (k := 24) (a := 24) c936 rfl; have tc937 := lv_neT (k := 25) (a := 25) c937 rfl; have tc938 := lv_neT (k := 26) (a := 26) c938 rfl; have tc939 := lv_neT (k := 27) (a := 27) c939 rfl; have tc940 := lv_neT (k := 28) (a := 28) c940 rfl; have tc941 := lv_neT (k := 29) (a := 29) c941 rfl; have tc942 := lv_neT (k := 30) (a := 30) c942 rfl; have tc943 := lv_neT (k := 31) (a := 31) c943 rfl; have tc944 := lv_neT (k := 32) (a := 32) c944 rfl; have tc945 := lv_neT (k := 33) (a := 33) c945 rfl; have tc946 := lv_neT (k := 34) (a := 34) c946 rfl; have tc947 := lv_neT (k := 35) (a := 35) c947 rfl; have tc948 := lv_neT (k := 36) (a := 36) c948 rfl; have tc949 := lv_neT (k := 37) (a := 37) c949 rfl; have tc950 := lv_neT (k := 38) (a := 38) c950 rfl; have tc951 := lv_neT (k := 39) (a := 39) c951 rfl; have tc952 := lv_neT (k := 40) (a := 40) c952 rfl; have tc953 := lv_neT (k := 41) (a := 41) c953 rfl; have tc954 := lv_neT (k := 42) (a := 42) c954 rfl; have tc955 := lv_neT (k := 43) (a := 43) c955 rfl; have tc956 := lv_neT (k := 44) (a := 44) c956 rfl; have tc957 := lv_neT (k := 45) (a := 45) c957 rfl; have tc958 := lv_neT (k := 46) (a := 46) c958 rfl; omega) (by decide) ?_
                                                                                                    refine j_sub [0, 1, 2, 3, 4] rfl ?_
                                                                                                    refine j_widen (k9 := k9 + 27) (n9 := n9 + 600) (by show k9 + 0 ≤ k9 + 27; omega) (by show n9 + 0 ≤ n9 + 600; omega) ?_
                                                                                                    exact m_L_law_b1816 E hX hV hl0 hb9 hn9 K23 hK23 v1 v2 v3 v4 Z I L hZ hx kv1 kv2 kv3 h
/-- no ints, no longs -/
def jIe : jI := fun _ _ => 0
def jLe : jL := fun _ _ => 0
set_option maxRecDepth 100000 in
def f_L_law (xs : Nat → Int32) (Ls : Nat) : Prop := (∀ q959 : Nat, q959 ∉ jZe.1 → ∀ Z960 : jZ, Z960 = jnw jZe q959 11 0 → ∀ I961 : jI, I961 = jz0 jIe q959 → ∀ L962 : jL, L962 = jzL jLe q959 → (f_X11_init q959 Z960 I961 L962 (fun Z964 I965 L966 => (∀ q969 : Nat, q969 ∉ Z964.1 → ∀ Z970 : jZ, Z970 = jnw Z964 q969 12 0 → ∀ I971 : jI, I971 = jz0 I965 q969 → ∀ L972 : jL, L972 = jzL L966 q969 → (f_X12_init q969 Z970 I971 L972 (fun Z975 I976 L977 => (∀ q981 : Nat, q981 ∉ Z975.1 → ∀ Z982 : jZ, Z982 = jnw Z975 q981 15 1 → ∀ I983 : jI, I983 = jz0 I976 q981 → ∀ L984 : jL, L984 = jzL L977 q981 → (SH Z982 ∧ ∃ m9 : Nat, m9 ≤ 512 ∧ f_L_law_L23 xs Ls m9 q959 q969 q981 (0 : Int32) Z982 I983 L984))))))))
set_option maxHeartbeats 4000000 in
set_option maxRecDepth 100000 in
theorem m_L_law {G : jG} {xs : Nat → Int32} {Ls b : Nat} (E : jE G cL_law RL (Cond.arrayClass .byte :: jT) 8 (some .boolean) room_1 jRL) (hX : va_X b Ls xs (gS G) (gS G).heap ∧ b < (gS G).heap.size ∧ ¬ gA G b) (hV : jV (gA G) (gS G) (gS G).heap) (hl0 : (gL G).stackTraces = false) (h : f_L_law xs Ls) : jJ G 8 0 [(0, .ref b)] [] jZe jIe jLe 0 0 := by
  unfold f_L_law at h
  have hx : jext jZe jZe := jext_rfl
  refine j_new E 11 rfl rfl (by decide) (iw iT_11) tyX11_ok (by decide) (tw W_1552) (tw W_1553) (tw W_28) (by decide) (by decide) dL_law_0 (fun q959 nq959 => ?_)
  refine j_nmZ (fun Z960 eZ960 => ?_)
  refine j_nmI (fun I961 eI961 => ?_)
  refine j_nmL (fun L962 eL962 => ?_)
  have h := h q959 nq959 Z960 eZ960 I961 eI961 L962 eL962
  have yZ960 : jext jZe Z960 := by rw [eZ960]; exact jext_nw nq959
  have kq959 : jk Z960 q959 11 := by rw [eZ960]; exact jk_nw
  have hx : jext jZe Z960 := jext_trans hx yZ960
  refine j_dup E dL_law_3 rfl ?_
  refine j_callI E [] [.ref q959] (c_X11_init (gL G) (gD G) (gY G) q959 Z960 I961 L962 _ kq959 h) (gwN W_1554) rfl (tw W_28) (tw W_1555) (tw W_1556) rfl fy_X11_init ⟨by decide, by decide⟩ rfl rfl (Nat.le_of_ble_eq_true rfl) ⟨by decide, by decide⟩ dL_law_4 (fun v963 Z964 I965 L966 q967 => ?_)
  obtain ⟨yZ964, rfl, h⟩ := q967
  have k968 := (yZ964 _ _ kq959).1
  have hx : jext jZe Z964 := jext_trans hx yZ964
  show jJ G 8 7 [(0, .ref b)] [.ref q959] Z964 I965 L966 _ _
  refine j_astore_n E 1 [(1, .ref q959), (0, .ref b)] dL_law_7 rfl (by decide) rfl ?_
  refine j_new E 12 rfl rfl (by decide) (iw iT_12) tyX12_ok (by decide) (tw W_1557) (tw W_1558) (tw W_679) (by decide) (by decide) dL_law_8 (fun q969 nq969 => ?_)
  refine j_nmZ (fun Z970 eZ970 => ?_)
  refine j_nmI (fun I971 eI971 => ?_)
  refine j_nmL (fun L972 eL972 => ?_)
  have h := h q969 nq969 Z970 eZ970 I971 eI971 L972 eL972
  have yZ970 : jext Z964 Z970 := by rw [eZ970]; exact jext_nw nq969
  have kq969 : jk Z970 q969 12 := by rw [eZ970]; exact jk_nw
  have k973 := (yZ970 _ _ k968).1
  have hx : jext jZe Z970 := jext_trans hx yZ970
  refine j_dup E dL_law_11 rfl ?_
  refine j_callI E [] [.ref q969] (c_X12_init (gL G) (gD G) (gY G) q969 Z970 I971 L972 _ kq969 h) (gwN W_1559) rfl (tw W_679) (tw W_1560) (tw W_1561) rfl fy_X12_init ⟨by decide, by decide⟩ rfl rfl (Nat.le_of_ble_eq_true rfl) ⟨by decide, by decide⟩ dL_law_12 (fun v974 Z975 I976 L977 q978 => ?_)
  obtain ⟨yZ975, rfl, h⟩ := q978
  have k979 := (yZ975 _ _ k973).1
  have k980 := (yZ975 _ _ kq969).1
  have hx : jext jZe Z975 := jext_trans hx yZ975
  show jJ G 8 15 [(1, .ref q959), (0, .ref b)] [.ref q969] Z975 I976 L977 _ _
  refine j_astore_n E 2 [(2, .ref q969), (1, .ref q959), (0, .ref b)] dL_law_15 rfl (by decide) rfl ?_
  refine j_iconst E (v := 1) dL_law_16 (by decide) ?_
  refine j_newaJ E 1 (by decide) (by decide) (by decide) (tw W_943) (by decide) (by decide) dL_law_17 (fun q981 nq981 => ?_)
  refine j_nmZ (fun Z982 eZ982 => ?_)
  refine j_nmI (fun I983 eI983 => ?_)
  refine j_nmL (fun L984 eL984 => ?_)
  have h := h q981 nq981 Z982 eZ982 I983 eI983 L984 eL984
  have yZ982 : jext Z975 Z982 := by rw [eZ982]; exact jext_nw nq981
  have kq981 : jk Z982 q981 15 := by rw [eZ982]; exact jk_nw
  have k985 := (yZ982 _ _ k979).1
  have k986 := (yZ982 _ _ k980).1
  have hx : jext jZe Z982 := jext_trans hx yZ982
  refine j_astore_n E 3 [(3, .ref q981), (2, .ref q969), (1, .ref q959), (0, .ref b)] dL_law_19 rfl (by decide) rfl ?_
  refine j_iconst E (v := 0) dL_law_20 (by decide) ?_
  refine j_istore E 4 [(4, .int (0 : Int32)), (3, .ref q981), (2, .ref q969), (1, .ref q959), (0, .ref b)] dL_law_21 (by decide) rfl ?_
  obtain ⟨hZ, m9, hm9, h⟩ := h
  refine j_sub [4, 3, 2, 1, 0] rfl ?_
  refine j_widen (k9 := 114 + 0) (n9 := 516091 + 0) (by decide) (by decide) ?_
  exact m_L_law_L23 E hX hV hl0 m9 114 516091 q959 q969 q981 (0 : Int32) Z982 I983 L984 (by omega) (by omega) hZ jext_rfl k985 k986 kq981 h
theorem jthw_in : ∀ w ∈ jthw, w ∈ vyL.filter vx_no := by decide +kernel
set_option maxRecDepth 100000 in
/-- what a throw stands on, at the law's entry -/
theorem law_V {p : Program} {s : State} {m : MethodId} {meth : Method} {c : Code} {b Ls : Nat} {xs : Nat → Int32} (C0 : lw_At p s m meth c b Ls xs) : jV (fun q => s.heap.size ≤ q) s s.heap := by
  obtain ⟨-, -, -, -, -, hts, -, -, -, hgv⟩ := C0
  have hs := flat_of_before _ hgv
  have hi : (Cond.initialized Bundle.tN).before #[Value.ref b] s = true := hts _ (by decide +kernel)
  refine ⟨fun w hw => ?_, ?_, vx_Zqof (hts _ (by decide +kernel)) hi (hs _ (by decide +kernel)) (fun a h => Nat.not_le.mpr h), vx_Zqof (hts _ (by decide +kernel)) hi (hs _ (by decide +kernel)) (fun a h => Nat.not_le.mpr h)⟩
  · have h1 := hts w (vy_in w (jthw_in w hw))
    have h2 := jthw_all w hw
    cases w with
    | declares x => exact va_Nw.of rfl h1
    | castable a b => exact va_Nw.of rfl h1
    | _ => cases h2
  · have st : ∀ (i : Nat) (tx : String), (Cond.exactly (.string "StairsInSteps" i) "java/lang/String") ∈ flatC (Jvm.Cond.and given_1 narrow_1) → Cond.stringRef "StairsInSteps" i tx ∈ lw_tbl → ∃ sa : Nat, vk_R "StairsInSteps" i tx sa s := fun i tx h1 h2 => by
      obtain ⟨a, -, -, -, ha, -⟩ := Cond.exactly_spec (hs _ h1)
      exact ⟨a, vk_R.of (hts _ h2) ha⟩
    have e : ∀ q ∈ jstr, (Cond.exactly (.string "StairsInSteps" q.1) "java/lang/String") ∈ flatC (Jvm.Cond.and given_1 narrow_1) ∧ Cond.stringRef "StairsInSteps" q.1 q.2 ∈ lw_tbl := by decide +kernel
    exact fun q hq => st q.1 q.2 (e q hq).1 (e q hq).2
/-- THE LAW out of f_L_law alone: no machine is left -/
theorem law_go {p : Program} {e : Env} {s : State} {m : MethodId} {below : List Frame} {meth : Method} {c : Code} (l : Launch) (hl0 : l.stackTraces = false) {b Ls : Nat} {xs : Nat → Int32} (C0 : lw_At p s m meth c b Ls xs) (h : f_L_law xs Ls) : W p l e room_1 s m #[Value.ref b] below meth c s.heap [] 0 0 (lw_Z below #[Value.ref b] s) (entryFrame m ([Value.ref b] : List Value).toArray 8) := by
  refine law_in l C0 (fun G eL eS eX eA E => ?_)
  refine m_L_law E ?_ ?_ (by rw [eL]; exact hl0) h
  · rw [eS, eA]
    exact ⟨C0.2.2.2.2.2.2.1, C0.2.2.2.2.2.2.2.1, Nat.not_le.mpr C0.2.2.2.2.2.2.2.1⟩
  · rw [eS, eA]
    exact law_V C0
