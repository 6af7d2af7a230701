/-! THE LAW'S CASES, 3 -/
theorem law_24 {w : WD} {p : Program} {l : Launch} {e : Env} {s : State} {m : MethodId} {below : List Frame} {meth : Method} {c : Code} {b L : Nat} {xs : Nat → Int32} : LCase w p l e s m below meth c b L xs 1133 := by
  intro X n h cells slots hi hn hI hc hs kk
  obtain ⟨I, R, Lg, sh, N, tp, nt, nk, nP, nF, nS, kA, fA, cA, gA, rfl, hC, hr⟩ := hI
  obtain ⟨ac, az, hac, haz, hX⟩ := s_pass hC hr (by omega) (x1 := xs (6 * n + 1))
  refine lr_aload (i := 1) X dL_1133 rfl rfl lv1 ?_
  refine lr_arg (k := 1) X dL_1134 rfl dL_1135 rfl dL_1136 rfl dL_1137 rfl dL_1138 rfl rfl (by omega) ?_
  refine lr_callv (M2 := mi_X_pass) (id := 0) (as := [.int (xs (6 * n + 1))]) (rest := []) X dL_1139 rfl k_L_119 cm_X_pass cv_X_pass (sh_0 hC.1.1) (Nat.le_of_ble_eq_true rfl) rfl rfl (Nat.le_of_ble_eq_true rfl) hX (by omega) (by omega) (by omega) rfl (fun r h1 hq => ?_)
  obtain ⟨ac2, az2, hac2, haz2, ⟨⟨v, rfl⟩, h761⟩, hM⟩ := hq
  change LR w p l e s m below meth c b 1142 (LV w b (6 * n)) [.int v] h1 (cells + ac) (slots + az)
  refine lr_aload (i := 2) X dL_1142 rfl rfl lv2 ?_
  refine lr_arg (k := 1) X dL_1143 rfl dL_1144 rfl dL_1145 rfl dL_1146 rfl dL_1147 rfl rfl (by omega) ?_
  refine lr_callv (M2 := mi_M_pass) (id := 761) (as := [.int (xs (6 * n + 1))]) (rest := [.int v]) X dL_1148 rfl k_L_122 cm_M_pass cv_M_pass h761 (Nat.le_of_ble_eq_true rfl) rfl rfl (Nat.le_of_ble_eq_true rfl) hM (by omega) (by omega) (by omega) rfl (fun r2 h2 hq2 => ?_)
  obtain ⟨rfl, hI2⟩ := hq2
  change LR w p l e s m below meth c b 1151 (LV w b (6 * n)) [.int v, .int v] h2 (cells + ac + ac2) (slots + az + az2)
  exact lr_same X dL_1151 rfl (kk h2 _ _ hI2 (by omega) (by omega))
theorem law_25 {w : WD} {p : Program} {l : Launch} {e : Env} {s : State} {m : MethodId} {below : List Frame} {meth : Method} {c : Code} {b L : Nat} {xs : Nat → Int32} : LCase w p l e s m below meth c b L xs 1156 := by
  intro X n h cells slots hi hn hI hc hs kk
  obtain ⟨I, R, Lg, sh, N, tp, nt, nk, nP, nF, nS, kA, fA, cA, gA, rfl, hC, hr⟩ := hI
  obtain ⟨ac, az, hac, haz, hX⟩ := s_ask hC hr (by omega) (x1 := xs (6 * n + 1)) (x2 := xs (6 * n + 2))
  refine lr_aload (i := 1) X dL_1156 rfl rfl lv1 ?_
  refine lr_arg (k := 1) X dL_1157 rfl dL_1158 rfl dL_1159 rfl dL_1160 rfl dL_1161 rfl rfl (by omega) ?_
  refine lr_arg (k := 2) X dL_1162 rfl dL_1163 rfl dL_1164 rfl dL_1165 rfl dL_1166 rfl rfl (by omega) ?_
  refine lr_callv (M2 := mi_X_ask) (id := 0) (as := [.int (xs (6 * n + 1)), .int (xs (6 * n + 2))]) (rest := []) X dL_1167 rfl k_L_123 cm_X_ask cv_X_ask (sh_0 hC.1.1) (Nat.le_of_ble_eq_true rfl) rfl rfl (Nat.le_of_ble_eq_true rfl) hX (by omega) (by omega) (by omega) rfl (fun r h1 hq => ?_)
  obtain ⟨ac2, az2, hac2, haz2, ⟨⟨v, rfl⟩, h761⟩, hM⟩ := hq
  change LR w p l e s m below meth c b 1170 (LV w b (6 * n)) [.int v] h1 (cells + ac) (slots + az)
  refine lr_aload (i := 2) X dL_1170 rfl rfl lv2 ?_
  refine lr_arg (k := 1) X dL_1171 rfl dL_1172 rfl dL_1173 rfl dL_1174 rfl dL_1175 rfl rfl (by omega) ?_
  refine lr_arg (k := 2) X dL_1176 rfl dL_1177 rfl dL_1178 rfl dL_1179 rfl dL_1180 rfl rfl (by omega) ?_
  refine lr_callv (M2 := mi_M_ask) (id := 761) (as := [.int (xs (6 * n + 1)), .int (xs (6 * n + 2))]) (rest := [.int v]) X dL_1181 rfl k_L_126 cm_M_ask cv_M_ask h761 (Nat.le_of_ble_eq_true rfl) rfl rfl (Nat.le_of_ble_eq_true rfl) hM (by omega) (by omega) (by omega) rfl (fun r2 h2 hq2 => ?_)
  obtain ⟨rfl, hI2⟩ := hq2
  change LR w p l e s m below meth c b 1184 (LV w b (6 * n)) [.int v, .int v] h2 (cells + ac + ac2) (slots + az + az2)
  exact lr_same X dL_1184 rfl (kk h2 _ _ hI2 (by omega) (by omega))
theorem law_26 {w : WD} {p : Program} {l : Launch} {e : Env} {s : State} {m : MethodId} {below : List Frame} {meth : Method} {c : Code} {b L : Nat} {xs : Nat → Int32} : LCase w p l e s m below meth c b L xs 1189 := by
  intro X n h cells slots hi hn hI hc hs kk
  obtain ⟨I, R, Lg, sh, N, tp, nt, nk, nP, nF, nS, kA, fA, cA, gA, rfl, hC, hr⟩ := hI
  obtain ⟨ac, az, hac, haz, hX⟩ := s_would hC hr (by omega) (x1 := xs (6 * n + 1)) (x2 := xs (6 * n + 2)) (x3 := xs (6 * n + 3))
  refine lr_aload (i := 1) X dL_1189 rfl rfl lv1 ?_
  refine lr_arg (k := 1) X dL_1190 rfl dL_1191 rfl dL_1192 rfl dL_1193 rfl dL_1194 rfl rfl (by omega) ?_
  refine lr_arg (k := 2) X dL_1195 rfl dL_1196 rfl dL_1197 rfl dL_1198 rfl dL_1199 rfl rfl (by omega) ?_
  refine lr_arg (k := 3) X dL_1200 rfl dL_1201 rfl dL_1202 rfl dL_1203 rfl dL_1204 rfl rfl (by omega) ?_
  refine lr_callv (M2 := mi_X_would) (id := 0) (as := [.int (xs (6 * n + 1)), .int (xs (6 * n + 2)), .int (xs (6 * n + 3))]) (rest := []) X dL_1205 rfl k_L_127 cm_X_would cv_X_would (sh_0 hC.1.1) (Nat.le_of_ble_eq_true rfl) rfl rfl (Nat.le_of_ble_eq_true rfl) hX (by omega) (by omega) (by omega) rfl (fun r h1 hq => ?_)
  obtain ⟨ac2, az2, hac2, haz2, ⟨⟨v, rfl⟩, h761⟩, hM⟩ := hq
  change LR w p l e s m below meth c b 1208 (LV w b (6 * n)) [.int v] h1 (cells + ac) (slots + az)
  refine lr_aload (i := 2) X dL_1208 rfl rfl lv2 ?_
  refine lr_arg (k := 1) X dL_1209 rfl dL_1210 rfl dL_1211 rfl dL_1212 rfl dL_1213 rfl rfl (by omega) ?_
  refine lr_arg (k := 2) X dL_1214 rfl dL_1215 rfl dL_1216 rfl dL_1217 rfl dL_1218 rfl rfl (by omega) ?_
  refine lr_arg (k := 3) X dL_1219 rfl dL_1220 rfl dL_1221 rfl dL_1222 rfl dL_1223 rfl rfl (by omega) ?_
  refine lr_callv (M2 := mi_M_would) (id := 761) (as := [.int (xs (6 * n + 1)), .int (xs (6 * n + 2)), .int (xs (6 * n + 3))]) (rest := [.int v]) X dL_1224 rfl k_L_130 cm_M_would cv_M_would h761 (Nat.le_of_ble_eq_true rfl) rfl rfl (Nat.le_of_ble_eq_true rfl) hM (by omega) (by omega) (by omega) rfl (fun r2 h2 hq2 => ?_)
  obtain ⟨rfl, hI2⟩ := hq2
  change LR w p l e s m below meth c b 1227 (LV w b (6 * n)) [.int v, .int v] h2 (cells + ac + ac2) (slots + az + az2)
  exact lr_same X dL_1227 rfl (kk h2 _ _ hI2 (by omega) (by omega))
theorem law_27 {w : WD} {p : Program} {l : Launch} {e : Env} {s : State} {m : MethodId} {below : List Frame} {meth : Method} {c : Code} {b L : Nat} {xs : Nat → Int32} : LCase w p l e s m below meth c b L xs 1232 := by
  intro X n h cells slots hi hn hI hc hs kk
  obtain ⟨I, R, Lg, sh, N, tp, nt, nk, nP, nF, nS, kA, fA, cA, gA, rfl, hC, hr⟩ := hI
  obtain ⟨ac, az, hac, haz, hX⟩ := s_path hC hr (by omega) (x1 := xs (6 * n + 1)) (x2 := xs (6 * n + 2)) (x3 := xs (6 * n + 3)) (x4 := xs (6 * n + 4))
  refine lr_aload (i := 1) X dL_1232 rfl rfl lv1 ?_
  refine lr_arg (k := 1) X dL_1233 rfl dL_1234 rfl dL_1235 rfl dL_1236 rfl dL_1237 rfl rfl (by omega) ?_
  refine lr_arg (k := 2) X dL_1238 rfl dL_1239 rfl dL_1240 rfl dL_1241 rfl dL_1242 rfl rfl (by omega) ?_
  refine lr_arg (k := 3) X dL_1243 rfl dL_1244 rfl dL_1245 rfl dL_1246 rfl dL_1247 rfl rfl (by omega) ?_
  refine lr_arg (k := 4) X dL_1248 rfl dL_1249 rfl dL_1250 rfl dL_1251 rfl dL_1252 rfl rfl (by omega) ?_
  refine lr_callv (M2 := mi_X_path) (id := 0) (as := [.int (xs (6 * n + 1)), .int (xs (6 * n + 2)), .int (xs (6 * n + 3)), .int (xs (6 * n + 4))]) (rest := []) X dL_1253 rfl k_L_131 cm_X_path cv_X_path (sh_0 hC.1.1) (Nat.le_of_ble_eq_true rfl) rfl rfl (Nat.le_of_ble_eq_true rfl) hX (by omega) (by omega) (by omega) rfl (fun r h1 hq => ?_)
  obtain ⟨ac2, az2, hac2, haz2, ⟨⟨v, rfl⟩, h761⟩, hM⟩ := hq
  change LR w p l e s m below meth c b 1256 (LV w b (6 * n)) [.int v] h1 (cells + ac) (slots + az)
  refine lr_aload (i := 2) X dL_1256 rfl rfl lv2 ?_
  refine lr_arg (k := 1) X dL_1257 rfl dL_1258 rfl dL_1259 rfl dL_1260 rfl dL_1261 rfl rfl (by omega) ?_
  refine lr_arg (k := 2) X dL_1262 rfl dL_1263 rfl dL_1264 rfl dL_1265 rfl dL_1266 rfl rfl (by omega) ?_
  refine lr_arg (k := 3) X dL_1267 rfl dL_1268 rfl dL_1269 rfl dL_1270 rfl dL_1271 rfl rfl (by omega) ?_
  refine lr_arg (k := 4) X dL_1272 rfl dL_1273 rfl dL_1274 rfl dL_1275 rfl dL_1276 rfl rfl (by omega) ?_
  refine lr_callv (M2 := mi_M_path) (id := 761) (as := [.int (xs (6 * n + 1)), .int (xs (6 * n + 2)), .int (xs (6 * n + 3)), .int (xs (6 * n + 4))]) (rest := [.int v]) X dL_1277 rfl k_L_134 cm_M_path cv_M_path h761 (Nat.le_of_ble_eq_true rfl) rfl rfl (Nat.le_of_ble_eq_true rfl) hM (by omega) (by omega) (by omega) rfl (fun r2 h2 hq2 => ?_)
  obtain ⟨rfl, hI2⟩ := hq2
  change LR w p l e s m below meth c b 1280 (LV w b (6 * n)) [.int v, .int v] h2 (cells + ac + ac2) (slots + az + az2)
  exact lr_same X dL_1280 rfl (kk h2 _ _ hI2 (by omega) (by omega))
theorem law_28 {w : WD} {p : Program} {l : Launch} {e : Env} {s : State} {m : MethodId} {below : List Frame} {meth : Method} {c : Code} {b L : Nat} {xs : Nat → Int32} : LCase w p l e s m below meth c b L xs 1285 := by
  intro X n h cells slots hi hn hI hc hs kk
  obtain ⟨I, R, Lg, sh, N, tp, nt, nk, nP, nF, nS, kA, fA, cA, gA, rfl, hC, hr⟩ := hI
  obtain ⟨ac, az, hac, haz, hX⟩ := s_later hC hr (by omega) (x1 := xs (6 * n + 1)) (x2 := xs (6 * n + 2)) (x3 := xs (6 * n + 3))
  refine lr_aload (i := 1) X dL_1285 rfl rfl lv1 ?_
  refine lr_arg (k := 1) X dL_1286 rfl dL_1287 rfl dL_1288 rfl dL_1289 rfl dL_1290 rfl rfl (by omega) ?_
  refine lr_arg (k := 2) X dL_1291 rfl dL_1292 rfl dL_1293 rfl dL_1294 rfl dL_1295 rfl rfl (by omega) ?_
  refine lr_arg (k := 3) X dL_1296 rfl dL_1297 rfl dL_1298 rfl dL_1299 rfl dL_1300 rfl rfl (by omega) ?_
  refine lr_callv (M2 := mi_X_later) (id := 0) (as := [.int (xs (6 * n + 1)), .int (xs (6 * n + 2)), .int (xs (6 * n + 3))]) (rest := []) X dL_1301 rfl k_L_135 cm_X_later cv_X_later (sh_0 hC.1.1) (Nat.le_of_ble_eq_true rfl) rfl rfl (Nat.le_of_ble_eq_true rfl) hX (by omega) (by omega) (by omega) rfl (fun r h1 hq => ?_)
  obtain ⟨ac2, az2, hac2, haz2, ⟨⟨v, rfl⟩, h761⟩, hM⟩ := hq
  change LR w p l e s m below meth c b 1304 (LV w b (6 * n)) [.int v] h1 (cells + ac) (slots + az)
  refine lr_aload (i := 2) X dL_1304 rfl rfl lv2 ?_
  refine lr_arg (k := 1) X dL_1305 rfl dL_1306 rfl dL_1307 rfl dL_1308 rfl dL_1309 rfl rfl (by omega) ?_
  refine lr_arg (k := 2) X dL_1310 rfl dL_1311 rfl dL_1312 rfl dL_1313 rfl dL_1314 rfl rfl (by omega) ?_
  refine lr_arg (k := 3) X dL_1315 rfl dL_1316 rfl dL_1317 rfl dL_1318 rfl dL_1319 rfl rfl (by omega) ?_
  refine lr_callv (M2 := mi_M_later) (id := 761) (as := [.int (xs (6 * n + 1)), .int (xs (6 * n + 2)), .int (xs (6 * n + 3))]) (rest := [.int v]) X dL_1320 rfl k_L_138 cm_M_later cv_M_later h761 (Nat.le_of_ble_eq_true rfl) rfl rfl (Nat.le_of_ble_eq_true rfl) hM (by omega) (by omega) (by omega) rfl (fun r2 h2 hq2 => ?_)
  obtain ⟨rfl, hI2⟩ := hq2
  change LR w p l e s m below meth c b 1323 (LV w b (6 * n)) [.int v, .int v] h2 (cells + ac + ac2) (slots + az + az2)
  exact lr_same X dL_1323 rfl (kk h2 _ _ hI2 (by omega) (by omega))
theorem law_29 {w : WD} {p : Program} {l : Launch} {e : Env} {s : State} {m : MethodId} {below : List Frame} {meth : Method} {c : Code} {b L : Nat} {xs : Nat → Int32} : LCase w p l e s m below meth c b L xs 1328 := by
  intro X n h cells slots hi hn hI hc hs kk
  obtain ⟨I, R, Lg, sh, N, tp, nt, nk, nP, nF, nS, kA, fA, cA, gA, rfl, hC, hr⟩ := hI
  obtain ⟨ac, az, hac, haz, hX⟩ := s_reach hC hr (by omega) (x1 := xs (6 * n + 1)) (x2 := xs (6 * n + 2))
  refine lr_aload (i := 1) X dL_1328 rfl rfl lv1 ?_
  refine lr_arg (k := 1) X dL_1329 rfl dL_1330 rfl dL_1331 rfl dL_1332 rfl dL_1333 rfl rfl (by omega) ?_
  refine lr_arg (k := 2) X dL_1334 rfl dL_1335 rfl dL_1336 rfl dL_1337 rfl dL_1338 rfl rfl (by omega) ?_
  refine lr_callv (M2 := mi_X_reach) (id := 0) (as := [.int (xs (6 * n + 1)), .int (xs (6 * n + 2))]) (rest := []) X dL_1339 rfl k_L_139 cm_X_reach cv_X_reach (sh_0 hC.1.1) (Nat.le_of_ble_eq_true rfl) rfl rfl (Nat.le_of_ble_eq_true rfl) hX (by omega) (by omega) (by omega) rfl (fun r h1 hq => ?_)
  obtain ⟨ac2, az2, hac2, haz2, ⟨⟨v, rfl⟩, h761⟩, hM⟩ := hq
  change LR w p l e s m below meth c b 1342 (LV w b (6 * n)) [.int v] h1 (cells + ac) (slots + az)
  refine lr_aload (i := 2) X dL_1342 rfl rfl lv2 ?_
  refine lr_arg (k := 1) X dL_1343 rfl dL_1344 rfl dL_1345 rfl dL_1346 rfl dL_1347 rfl rfl (by omega) ?_
  refine lr_arg (k := 2) X dL_1348 rfl dL_1349 rfl dL_1350 rfl dL_1351 rfl dL_1352 rfl rfl (by omega) ?_
  refine lr_callv (M2 := mi_M_reach) (id := 761) (as := [.int (xs (6 * n + 1)), .int (xs (6 * n + 2))]) (rest := [.int v]) X dL_1353 rfl k_L_142 cm_M_reach cv_M_reach h761 (Nat.le_of_ble_eq_true rfl) rfl rfl (Nat.le_of_ble_eq_true rfl) hM (by omega) (by omega) (by omega) rfl (fun r2 h2 hq2 => ?_)
  obtain ⟨rfl, hI2⟩ := hq2
  change LR w p l e s m below meth c b 1356 (LV w b (6 * n)) [.int v, .int v] h2 (cells + ac + ac2) (slots + az + az2)
  exact lr_same X dL_1356 rfl (kk h2 _ _ hI2 (by omega) (by omega))
theorem law_30 {w : WD} {p : Program} {l : Launch} {e : Env} {s : State} {m : MethodId} {below : List Frame} {meth : Method} {c : Code} {b L : Nat} {xs : Nat → Int32} : LCase w p l e s m below meth c b L xs 1361 := by
  intro X n h cells slots hi hn hI hc hs kk
  obtain ⟨I, R, Lg, sh, N, tp, nt, nk, nP, nF, nS, kA, fA, cA, gA, rfl, hC, hr⟩ := hI
  obtain ⟨ac, az, hac, haz, hX⟩ := s_counted hC hr (by omega) (x1 := xs (6 * n + 1)) (x2 := xs (6 * n + 2))
  refine lr_aload (i := 1) X dL_1361 rfl rfl lv1 ?_
  refine lr_arg (k := 1) X dL_1362 rfl dL_1363 rfl dL_1364 rfl dL_1365 rfl dL_1366 rfl rfl (by omega) ?_
  refine lr_arg (k := 2) X dL_1367 rfl dL_1368 rfl dL_1369 rfl dL_1370 rfl dL_1371 rfl rfl (by omega) ?_
  refine lr_callv (M2 := mi_X_counted) (id := 0) (as := [.int (xs (6 * n + 1)), .int (xs (6 * n + 2))]) (rest := []) X dL_1372 rfl k_L_143 cm_X_counted cv_X_counted (sh_0 hC.1.1) (Nat.le_of_ble_eq_true rfl) rfl rfl (Nat.le_of_ble_eq_true rfl) hX (by omega) (by omega) (by omega) rfl (fun r h1 hq => ?_)
  obtain ⟨ac2, az2, hac2, haz2, ⟨⟨v, rfl⟩, h761⟩, hM⟩ := hq
  change LR w p l e s m below meth c b 1375 (LV w b (6 * n)) [.int v] h1 (cells + ac) (slots + az)
  refine lr_aload (i := 2) X dL_1375 rfl rfl lv2 ?_
  refine lr_arg (k := 1) X dL_1376 rfl dL_1377 rfl dL_1378 rfl dL_1379 rfl dL_1380 rfl rfl (by omega) ?_
  refine lr_arg (k := 2) X dL_1381 rfl dL_1382 rfl dL_1383 rfl dL_1384 rfl dL_1385 rfl rfl (by omega) ?_
  refine lr_callv (M2 := mi_M_counted) (id := 761) (as := [.int (xs (6 * n + 1)), .int (xs (6 * n + 2))]) (rest := [.int v]) X dL_1386 rfl k_L_146 cm_M_counted cv_M_counted h761 (Nat.le_of_ble_eq_true rfl) rfl rfl (Nat.le_of_ble_eq_true rfl) hM (by omega) (by omega) (by omega) rfl (fun r2 h2 hq2 => ?_)
  obtain ⟨rfl, hI2⟩ := hq2
  change LR w p l e s m below meth c b 1389 (LV w b (6 * n)) [.int v, .int v] h2 (cells + ac + ac2) (slots + az + az2)
  exact lr_same X dL_1389 rfl (kk h2 _ _ hI2 (by omega) (by omega))
theorem law_31 {w : WD} {p : Program} {l : Launch} {e : Env} {s : State} {m : MethodId} {below : List Frame} {meth : Method} {c : Code} {b L : Nat} {xs : Nat → Int32} : LCase w p l e s m below meth c b L xs 1394 := by
  intro X n h cells slots hi hn hI hc hs kk
  obtain ⟨I, R, Lg, sh, N, tp, nt, nk, nP, nF, nS, kA, fA, cA, gA, rfl, hC, hr⟩ := hI
  obtain ⟨ac, az, hac, haz, hX⟩ := s_by hC hr (by omega) (x1 := xs (6 * n + 1)) (x2 := xs (6 * n + 2))
  refine lr_aload (i := 1) X dL_1394 rfl rfl lv1 ?_
  refine lr_arg (k := 1) X dL_1395 rfl dL_1396 rfl dL_1397 rfl dL_1398 rfl dL_1399 rfl rfl (by omega) ?_
  refine lr_arg (k := 2) X dL_1400 rfl dL_1401 rfl dL_1402 rfl dL_1403 rfl dL_1404 rfl rfl (by omega) ?_
  refine lr_callv (M2 := mi_X_by) (id := 0) (as := [.int (xs (6 * n + 1)), .int (xs (6 * n + 2))]) (rest := []) X dL_1405 rfl k_L_147 cm_X_by cv_X_by (sh_0 hC.1.1) (Nat.le_of_ble_eq_true rfl) rfl rfl (Nat.le_of_ble_eq_true rfl) hX (by omega) (by omega) (by omega) rfl (fun r h1 hq => ?_)
  obtain ⟨ac2, az2, hac2, haz2, ⟨⟨v, rfl⟩, h761⟩, hM⟩ := hq
  change LR w p l e s m below meth c b 1408 (LV w b (6 * n)) [.int v] h1 (cells + ac) (slots + az)
  refine lr_aload (i := 2) X dL_1408 rfl rfl lv2 ?_
  refine lr_arg (k := 1) X dL_1409 rfl dL_1410 rfl dL_1411 rfl dL_1412 rfl dL_1413 rfl rfl (by omega) ?_
  refine lr_arg (k := 2) X dL_1414 rfl dL_1415 rfl dL_1416 rfl dL_1417 rfl dL_1418 rfl rfl (by omega) ?_
  refine lr_callv (M2 := mi_M_by) (id := 761) (as := [.int (xs (6 * n + 1)), .int (xs (6 * n + 2))]) (rest := [.int v]) X dL_1419 rfl k_L_150 cm_M_by cv_M_by h761 (Nat.le_of_ble_eq_true rfl) rfl rfl (Nat.le_of_ble_eq_true rfl) hM (by omega) (by omega) (by omega) rfl (fun r2 h2 hq2 => ?_)
  obtain ⟨rfl, hI2⟩ := hq2
  change LR w p l e s m below meth c b 1422 (LV w b (6 * n)) [.int v, .int v] h2 (cells + ac + ac2) (slots + az + az2)
  exact lr_same X dL_1422 rfl (kk h2 _ _ hI2 (by omega) (by omega))
theorem law_32 {w : WD} {p : Program} {l : Launch} {e : Env} {s : State} {m : MethodId} {below : List Frame} {meth : Method} {c : Code} {b L : Nat} {xs : Nat → Int32} : LCase w p l e s m below meth c b L xs 1427 := by
  intro X n h cells slots hi hn hI hc hs kk
  obtain ⟨I, R, Lg, sh, N, tp, nt, nk, nP, nF, nS, kA, fA, cA, gA, rfl, hC, hr⟩ := hI
  obtain ⟨ac, az, hac, haz, hX⟩ := s_so hC hr (by omega) (x1 := xs (6 * n + 1)) (x2 := xs (6 * n + 2))
  refine lr_aload (i := 1) X dL_1427 rfl rfl lv1 ?_
  refine lr_arg (k := 1) X dL_1428 rfl dL_1429 rfl dL_1430 rfl dL_1431 rfl dL_1432 rfl rfl (by omega) ?_
  refine lr_arg (k := 2) X dL_1433 rfl dL_1434 rfl dL_1435 rfl dL_1436 rfl dL_1437 rfl rfl (by omega) ?_
  refine lr_callv (M2 := mi_X_so) (id := 0) (as := [.int (xs (6 * n + 1)), .int (xs (6 * n + 2))]) (rest := []) X dL_1438 rfl k_L_151 cm_X_so cv_X_so (sh_0 hC.1.1) (Nat.le_of_ble_eq_true rfl) rfl rfl (Nat.le_of_ble_eq_true rfl) hX (by omega) (by omega) (by omega) rfl (fun r h1 hq => ?_)
  obtain ⟨ac2, az2, hac2, haz2, ⟨⟨v, rfl⟩, h761⟩, hM⟩ := hq
  change LR w p l e s m below meth c b 1441 (LV w b (6 * n)) [.int v] h1 (cells + ac) (slots + az)
  refine lr_aload (i := 2) X dL_1441 rfl rfl lv2 ?_
  refine lr_arg (k := 1) X dL_1442 rfl dL_1443 rfl dL_1444 rfl dL_1445 rfl dL_1446 rfl rfl (by omega) ?_
  refine lr_arg (k := 2) X dL_1447 rfl dL_1448 rfl dL_1449 rfl dL_1450 rfl dL_1451 rfl rfl (by omega) ?_
  refine lr_callv (M2 := mi_M_so) (id := 761) (as := [.int (xs (6 * n + 1)), .int (xs (6 * n + 2))]) (rest := [.int v]) X dL_1452 rfl k_L_154 cm_M_so cv_M_so h761 (Nat.le_of_ble_eq_true rfl) rfl rfl (Nat.le_of_ble_eq_true rfl) hM (by omega) (by omega) (by omega) rfl (fun r2 h2 hq2 => ?_)
  obtain ⟨rfl, hI2⟩ := hq2
  change LR w p l e s m below meth c b 1455 (LV w b (6 * n)) [.int v, .int v] h2 (cells + ac + ac2) (slots + az + az2)
  exact lr_same X dL_1455 rfl (kk h2 _ _ hI2 (by omega) (by omega))
theorem law_33 {w : WD} {p : Program} {l : Launch} {e : Env} {s : State} {m : MethodId} {below : List Frame} {meth : Method} {c : Code} {b L : Nat} {xs : Nat → Int32} : LCase w p l e s m below meth c b L xs 1460 := by
  intro X n h cells slots hi hn hI hc hs kk
  obtain ⟨I, R, Lg, sh, N, tp, nt, nk, nP, nF, nS, kA, fA, cA, gA, rfl, hC, hr⟩ := hI
  obtain ⟨ac, az, hac, haz, hX⟩ := s_grow hC hr (by omega) (x1 := xs (6 * n + 1)) (x2 := xs (6 * n + 2)) (x3 := xs (6 * n + 3)) (x4 := xs (6 * n + 4))
  refine lr_aload (i := 1) X dL_1460 rfl rfl lv1 ?_
  refine lr_arg (k := 1) X dL_1461 rfl dL_1462 rfl dL_1463 rfl dL_1464 rfl dL_1465 rfl rfl (by omega) ?_
  refine lr_arg (k := 2) X dL_1466 rfl dL_1467 rfl dL_1468 rfl dL_1469 rfl dL_1470 rfl rfl (by omega) ?_
  refine lr_arg (k := 3) X dL_1471 rfl dL_1472 rfl dL_1473 rfl dL_1474 rfl dL_1475 rfl rfl (by omega) ?_
  refine lr_arg (k := 4) X dL_1476 rfl dL_1477 rfl dL_1478 rfl dL_1479 rfl dL_1480 rfl rfl (by omega) ?_
  refine lr_callv (M2 := mi_X_grow) (id := 0) (as := [.int (xs (6 * n + 1)), .int (xs (6 * n + 2)), .int (xs (6 * n + 3)), .int (xs (6 * n + 4))]) (rest := []) X dL_1481 rfl k_L_155 cm_X_grow cv_X_grow (sh_0 hC.1.1) (Nat.le_of_ble_eq_true rfl) rfl rfl (Nat.le_of_ble_eq_true rfl) hX (by omega) (by omega) (by omega) rfl (fun r h1 hq => ?_)
  obtain ⟨ac2, az2, hac2, haz2, ⟨⟨v, rfl⟩, h761⟩, hM⟩ := hq
  change LR w p l e s m below meth c b 1484 (LV w b (6 * n)) [.int v] h1 (cells + ac) (slots + az)
  refine lr_aload (i := 2) X dL_1484 rfl rfl lv2 ?_
  refine lr_arg (k := 1) X dL_1485 rfl dL_1486 rfl dL_1487 rfl dL_1488 rfl dL_1489 rfl rfl (by omega) ?_
  refine lr_arg (k := 2) X dL_1490 rfl dL_1491 rfl dL_1492 rfl dL_1493 rfl dL_1494 rfl rfl (by omega) ?_
  refine lr_arg (k := 3) X dL_1495 rfl dL_1496 rfl dL_1497 rfl dL_1498 rfl dL_1499 rfl rfl (by omega) ?_
  refine lr_arg (k := 4) X dL_1500 rfl dL_1501 rfl dL_1502 rfl dL_1503 rfl dL_1504 rfl rfl (by omega) ?_
  refine lr_callv (M2 := mi_M_grow) (id := 761) (as := [.int (xs (6 * n + 1)), .int (xs (6 * n + 2)), .int (xs (6 * n + 3)), .int (xs (6 * n + 4))]) (rest := [.int v]) X dL_1505 rfl k_L_158 cm_M_grow cv_M_grow h761 (Nat.le_of_ble_eq_true rfl) rfl rfl (Nat.le_of_ble_eq_true rfl) hM (by omega) (by omega) (by omega) rfl (fun r2 h2 hq2 => ?_)
  obtain ⟨rfl, hI2⟩ := hq2
  change LR w p l e s m below meth c b 1508 (LV w b (6 * n)) [.int v, .int v] h2 (cells + ac + ac2) (slots + az + az2)
  exact lr_same X dL_1508 rfl (kk h2 _ _ hI2 (by omega) (by omega))
theorem law_34 {w : WD} {p : Program} {l : Launch} {e : Env} {s : State} {m : MethodId} {below : List Frame} {meth : Method} {c : Code} {b L : Nat} {xs : Nat → Int32} : LCase w p l e s m below meth c b L xs 1513 := by
  intro X n h cells slots hi hn hI hc hs kk
  obtain ⟨I, R, Lg, sh, N, tp, nt, nk, nP, nF, nS, kA, fA, cA, gA, rfl, hC, hr⟩ := hI
  obtain ⟨ac, az, hac, haz, hX⟩ := s_moved hC hr (by omega) (x1 := xs (6 * n + 1)) (x2 := xs (6 * n + 2)) (x3 := xs (6 * n + 3)) (x4 := xs (6 * n + 4))
  refine lr_aload (i := 1) X dL_1513 rfl rfl lv1 ?_
  refine lr_arg (k := 1) X dL_1514 rfl dL_1515 rfl dL_1516 rfl dL_1517 rfl dL_1518 rfl rfl (by omega) ?_
  refine lr_arg (k := 2) X dL_1519 rfl dL_1520 rfl dL_1521 rfl dL_1522 rfl dL_1523 rfl rfl (by omega) ?_
  refine lr_arg (k := 3) X dL_1524 rfl dL_1525 rfl dL_1526 rfl dL_1527 rfl dL_1528 rfl rfl (by omega) ?_
  refine lr_arg (k := 4) X dL_1529 rfl dL_1530 rfl dL_1531 rfl dL_1532 rfl dL_1533 rfl rfl (by omega) ?_
  refine lr_callv (M2 := mi_X_moved) (id := 0) (as := [.int (xs (6 * n + 1)), .int (xs (6 * n + 2)), .int (xs (6 * n + 3)), .int (xs (6 * n + 4))]) (rest := []) X dL_1534 rfl k_L_159 cm_X_moved cv_X_moved (sh_0 hC.1.1) (Nat.le_of_ble_eq_true rfl) rfl rfl (Nat.le_of_ble_eq_true rfl) hX (by omega) (by omega) (by omega) rfl (fun r h1 hq => ?_)
  obtain ⟨ac2, az2, hac2, haz2, ⟨⟨v, rfl⟩, h761⟩, hM⟩ := hq
  change LR w p l e s m below meth c b 1537 (LV w b (6 * n)) [.int v] h1 (cells + ac) (slots + az)
  refine lr_aload (i := 2) X dL_1537 rfl rfl lv2 ?_
  refine lr_arg (k := 1) X dL_1538 rfl dL_1539 rfl dL_1540 rfl dL_1541 rfl dL_1542 rfl rfl (by omega) ?_
  refine lr_arg (k := 2) X dL_1543 rfl dL_1544 rfl dL_1545 rfl dL_1546 rfl dL_1547 rfl rfl (by omega) ?_
  refine lr_arg (k := 3) X dL_1548 rfl dL_1549 rfl dL_1550 rfl dL_1551 rfl dL_1552 rfl rfl (by omega) ?_
  refine lr_arg (k := 4) X dL_1553 rfl dL_1554 rfl dL_1555 rfl dL_1556 rfl dL_1557 rfl rfl (by omega) ?_
  refine lr_callv (M2 := mi_M_moved) (id := 761) (as := [.int (xs (6 * n + 1)), .int (xs (6 * n + 2)), .int (xs (6 * n + 3)), .int (xs (6 * n + 4))]) (rest := [.int v]) X dL_1558 rfl k_L_162 cm_M_moved cv_M_moved h761 (Nat.le_of_ble_eq_true rfl) rfl rfl (Nat.le_of_ble_eq_true rfl) hM (by omega) (by omega) (by omega) rfl (fun r2 h2 hq2 => ?_)
  obtain ⟨rfl, hI2⟩ := hq2
  change LR w p l e s m below meth c b 1561 (LV w b (6 * n)) [.int v, .int v] h2 (cells + ac + ac2) (slots + az + az2)
  exact lr_same X dL_1561 rfl (kk h2 _ _ hI2 (by omega) (by omega))
theorem law_35 {w : WD} {p : Program} {l : Launch} {e : Env} {s : State} {m : MethodId} {below : List Frame} {meth : Method} {c : Code} {b L : Nat} {xs : Nat → Int32} : LCase w p l e s m below meth c b L xs 1566 := by
  intro X n h cells slots hi hn hI hc hs kk
  obtain ⟨I, R, Lg, sh, N, tp, nt, nk, nP, nF, nS, kA, fA, cA, gA, rfl, hC, hr⟩ := hI
  obtain ⟨ac, az, hac, haz, hX⟩ := s_shakes hC hr (by omega) (x1 := xs (6 * n + 1))
  refine lr_aload (i := 1) X dL_1566 rfl rfl lv1 ?_
  refine lr_arg (k := 1) X dL_1567 rfl dL_1568 rfl dL_1569 rfl dL_1570 rfl dL_1571 rfl rfl (by omega) ?_
  refine lr_callv (M2 := mi_X_shakes) (id := 0) (as := [.int (xs (6 * n + 1))]) (rest := []) X dL_1572 rfl k_L_163 cm_X_shakes cv_X_shakes (sh_0 hC.1.1) (Nat.le_of_ble_eq_true rfl) rfl rfl (Nat.le_of_ble_eq_true rfl) hX (by omega) (by omega) (by omega) rfl (fun r h1 hq => ?_)
  obtain ⟨ac2, az2, hac2, haz2, ⟨⟨v, rfl⟩, h761⟩, hM⟩ := hq
  change LR w p l e s m below meth c b 1575 (LV w b (6 * n)) [.int v] h1 (cells + ac) (slots + az)
  refine lr_aload (i := 2) X dL_1575 rfl rfl lv2 ?_
  refine lr_arg (k := 1) X dL_1576 rfl dL_1577 rfl dL_1578 rfl dL_1579 rfl dL_1580 rfl rfl (by omega) ?_
  refine lr_callv (M2 := mi_M_shakes) (id := 761) (as := [.int (xs (6 * n + 1))]) (rest := [.int v]) X dL_1581 rfl k_L_166 cm_M_shakes cv_M_shakes h761 (Nat.le_of_ble_eq_true rfl) rfl rfl (Nat.le_of_ble_eq_true rfl) hM (by omega) (by omega) (by omega) rfl (fun r2 h2 hq2 => ?_)
  obtain ⟨rfl, hI2⟩ := hq2
  change LR w p l e s m below meth c b 1584 (LV w b (6 * n)) [.int v, .int v] h2 (cells + ac + ac2) (slots + az + az2)
  exact lr_same X dL_1584 rfl (kk h2 _ _ hI2 (by omega) (by omega))
