/-! own text: the law, case by case -/
section Law20c
variable {K : Kx} {N : Nm} {g : Ge} {Pq : Int → Nm → Ge → Prop}
theorem law_25 {n : Nat} (hI : Inv N g) (hr : ∀ j, rI (N 61 0 j)) (hn : 6 * n + 6 ≤ (N 61 1 0).toNat) (hl : (N 61 1 0).toNat ≤ 3072) (next : ∀ N' g', Fin2 N N' g' → AW K YL_law hL_law (qI Pq) 2059 [some (vr 61 0), some (vr 0 0), some (vr 40 0), some (vr 60 0), some (vi (6 * (n : Int))), none, none] [] N' g') : AW K YL_law hL_law (qI Pq) 1173 [some (vr 61 0), some (vr 0 0), some (vr 40 0), some (vr 60 0), some (vi (6 * (n : Int))), none, none] [] N g := by
  obtain ⟨d, wg, p, T, L, h⟩ := hI
  refine ld_a1 iL_law_1173 ?_
  refine ld_a0 iL_law_1174 ?_
  refine ld_i4 iL_law_1175 ?_
  refine r_iconst iL_law_1177 ?_
  refine r_iadd iL_law_1178 ?_
  refine al_61 (n := (6 * n + 1)) (by omega) (by omega) (by omega) iL_law_1179 ?_
  refine r_i2l (by exact hr _) iL_law_1180 ?_
  refine r_bipush (by decide) iL_law_1181 ?_
  refine r_lshl (z := l32 (N 61 0 (6 * n + 1))) (ofL _).symm iL_law_1183 ?_
  refine ld_a0 iL_law_1184 ?_
  refine ld_i4 iL_law_1185 ?_
  refine r_iconst iL_law_1187 ?_
  refine r_iadd iL_law_1188 ?_
  refine al_61 (n := (6 * n + 2)) (by omega) (by omega) (by omega) iL_law_1189 ?_
  refine r_i2l (by exact hr _) iL_law_1190 ?_
  refine r_ldc2 (z := 4294967295) kKL_79 (by decide) iL_law_1191 ?_
  refine r_land (z := lo32 (N 61 0 (6 * n + 2))) (ofL _).symm iL_law_1194 ?_
  refine r_lor (z := lgA (N 61 0 (6 * n + 1)) (N 61 0 (6 * n + 2))) (ofL _).symm iL_law_1195 ?_
  refine xX9_nextMonth kML_136 iL_law_1196 (by decide) (Nat.le_of_ble_eq_true rfl) rfl rfl ?_
  refine Ck.mapI ?_ (q_nextMonth h (lgA_r _ _))
  rintro z N1 g1 ⟨s1, hm⟩
  have s61 := s1.1 1 0
  refine ld_a2 iL_law_1199 ?_
  refine ld_a0 iL_law_1200 ?_
  refine ld_i4 iL_law_1201 ?_
  refine r_iconst iL_law_1203 ?_
  refine r_iadd iL_law_1204 ?_
  refine al_61 (n := (6 * n + 1)) (by omega) (by omega) (by omega) iL_law_1205 ?_
  rw [s1.1 0 (6 * n + 1)]
  refine r_i2l (by exact hr _) iL_law_1206 ?_
  refine r_bipush (by decide) iL_law_1207 ?_
  refine r_lshl (z := l32 (N 61 0 (6 * n + 1))) (ofL _).symm iL_law_1209 ?_
  refine ld_a0 iL_law_1210 ?_
  refine ld_i4 iL_law_1211 ?_
  refine r_iconst iL_law_1213 ?_
  refine r_iadd iL_law_1214 ?_
  refine al_61 (n := (6 * n + 2)) (by omega) (by omega) (by omega) iL_law_1215 ?_
  rw [s1.1 0 (6 * n + 2)]
  refine r_i2l (by exact hr _) iL_law_1216 ?_
  refine r_ldc2 (z := 4294967295) kKL_79 (by decide) iL_law_1217 ?_
  refine r_land (z := lo32 (N 61 0 (6 * n + 2))) (ofL _).symm iL_law_1220 ?_
  refine r_lor (z := lgA (N 61 0 (6 * n + 1)) (N 61 0 (6 * n + 2))) (ofL _).symm iL_law_1221 ?_
  refine xX10_nextMonth kML_140 iL_law_1222 (by decide) (Nat.le_of_ble_eq_true rfl) rfl rfl ?_
  refine Ck.mapI ?_ hm
  rintro z2 N2 g2 ⟨e2, hf⟩
  subst e2
  refine r_icmpeqS iL_law_1225 ?_
  exact next _ _ hf
theorem law_26 {n : Nat} (hI : Inv N g) (hr : ∀ j, rI (N 61 0 j)) (hn : 6 * n + 6 ≤ (N 61 1 0).toNat) (hl : (N 61 1 0).toNat ≤ 3072) (next : ∀ N' g', Fin2 N N' g' → AW K YL_law hL_law (qI Pq) 2059 [some (vr 61 0), some (vr 0 0), some (vr 40 0), some (vr 60 0), some (vi (6 * (n : Int))), none, none] [] N' g') : AW K YL_law hL_law (qI Pq) 1230 [some (vr 61 0), some (vr 0 0), some (vr 40 0), some (vr 60 0), some (vi (6 * (n : Int))), none, none] [] N g := by
  obtain ⟨d, wg, p, T, L, h⟩ := hI
  refine ld_a1 iL_law_1230 ?_
  refine ld_a0 iL_law_1231 ?_
  refine ld_i4 iL_law_1232 ?_
  refine r_iconst iL_law_1234 ?_
  refine r_iadd iL_law_1235 ?_
  refine al_61 (n := (6 * n + 1)) (by omega) (by omega) (by omega) iL_law_1236 ?_
  refine r_i2l (by exact hr _) iL_law_1237 ?_
  refine r_bipush (by decide) iL_law_1238 ?_
  refine r_lshl (z := l32 (N 61 0 (6 * n + 1))) (ofL _).symm iL_law_1240 ?_
  refine ld_a0 iL_law_1241 ?_
  refine ld_i4 iL_law_1242 ?_
  refine r_iconst iL_law_1244 ?_
  refine r_iadd iL_law_1245 ?_
  refine al_61 (n := (6 * n + 2)) (by omega) (by omega) (by omega) iL_law_1246 ?_
  refine r_i2l (by exact hr _) iL_law_1247 ?_
  refine r_ldc2 (z := 4294967295) kKL_79 (by decide) iL_law_1248 ?_
  refine r_land (z := lo32 (N 61 0 (6 * n + 2))) (ofL _).symm iL_law_1251 ?_
  refine r_lor (z := lgA (N 61 0 (6 * n + 1)) (N 61 0 (6 * n + 2))) (ofL _).symm iL_law_1252 ?_
  refine xX9_level kML_141 iL_law_1253 (by decide) (Nat.le_of_ble_eq_true rfl) rfl rfl ?_
  refine Ck.mapI ?_ (q_level h (lgA_r _ _))
  rintro z N1 g1 ⟨s1, hm⟩
  have s61 := s1.1 1 0
  refine ld_a2 iL_law_1256 ?_
  refine ld_a0 iL_law_1257 ?_
  refine ld_i4 iL_law_1258 ?_
  refine r_iconst iL_law_1260 ?_
  refine r_iadd iL_law_1261 ?_
  refine al_61 (n := (6 * n + 1)) (by omega) (by omega) (by omega) iL_law_1262 ?_
  rw [s1.1 0 (6 * n + 1)]
  refine r_i2l (by exact hr _) iL_law_1263 ?_
  refine r_bipush (by decide) iL_law_1264 ?_
  refine r_lshl (z := l32 (N 61 0 (6 * n + 1))) (ofL _).symm iL_law_1266 ?_
  refine ld_a0 iL_law_1267 ?_
  refine ld_i4 iL_law_1268 ?_
  refine r_iconst iL_law_1270 ?_
  refine r_iadd iL_law_1271 ?_
  refine al_61 (n := (6 * n + 2)) (by omega) (by omega) (by omega) iL_law_1272 ?_
  rw [s1.1 0 (6 * n + 2)]
  refine r_i2l (by exact hr _) iL_law_1273 ?_
  refine r_ldc2 (z := 4294967295) kKL_79 (by decide) iL_law_1274 ?_
  refine r_land (z := lo32 (N 61 0 (6 * n + 2))) (ofL _).symm iL_law_1277 ?_
  refine r_lor (z := lgA (N 61 0 (6 * n + 1)) (N 61 0 (6 * n + 2))) (ofL _).symm iL_law_1278 ?_
  refine xX10_level kML_144 iL_law_1279 (by decide) (Nat.le_of_ble_eq_true rfl) rfl rfl ?_
  refine Ck.mapI ?_ hm
  rintro z2 N2 g2 ⟨e2, hf⟩
  subst e2
  refine r_icmpeqS iL_law_1282 ?_
  exact next _ _ hf
theorem law_27 {n : Nat} (hI : Inv N g) (hr : ∀ j, rI (N 61 0 j)) (hn : 6 * n + 6 ≤ (N 61 1 0).toNat) (hl : (N 61 1 0).toNat ≤ 3072) (next : ∀ N' g', Fin2 N N' g' → AW K YL_law hL_law (qI Pq) 2059 [some (vr 61 0), some (vr 0 0), some (vr 40 0), some (vr 60 0), some (vi (6 * (n : Int))), none, none] [] N' g') : AW K YL_law hL_law (qI Pq) 1287 [some (vr 61 0), some (vr 0 0), some (vr 40 0), some (vr 60 0), some (vi (6 * (n : Int))), none, none] [] N g := by
  obtain ⟨d, wg, p, T, L, h⟩ := hI
  refine ld_a1 iL_law_1287 ?_
  refine xX9_dueAhead kML_145 iL_law_1288 (by decide) (Nat.le_of_ble_eq_true rfl) rfl rfl ?_
  refine Ck.mapL ?_ (q_dueAhead h )
  rintro z N1 g1 ⟨s1, hm⟩
  have s61 := s1.1 1 0
  refine ld_a2 iL_law_1291 ?_
  refine xX10_dueAhead kML_149 iL_law_1292 (by decide) (Nat.le_of_ble_eq_true rfl) rfl rfl ?_
  refine Ck.mapL ?_ hm
  rintro z2 N2 g2 ⟨e2, hf⟩
  subst e2
  refine r_lcmpS iL_law_1295 ?_
  refine r_ifeq iL_law_1296 (by omega) (fun h1296 => ?_) (fun h1296 => ?_)
  · exact next _ _ hf
  · exact absurd rfl h1296
theorem law_28 {n : Nat} (hI : Inv N g) (hr : ∀ j, rI (N 61 0 j)) (hn : 6 * n + 6 ≤ (N 61 1 0).toNat) (hl : (N 61 1 0).toNat ≤ 3072) (next : ∀ N' g', Fin2 N N' g' → AW K YL_law hL_law (qI Pq) 2059 [some (vr 61 0), some (vr 0 0), some (vr 40 0), some (vr 60 0), some (vi (6 * (n : Int))), none, none] [] N' g') : AW K YL_law hL_law (qI Pq) 1301 [some (vr 61 0), some (vr 0 0), some (vr 40 0), some (vr 60 0), some (vi (6 * (n : Int))), none, none] [] N g := by
  obtain ⟨d, wg, p, T, L, h⟩ := hI
  refine ld_a1 iL_law_1301 ?_
  refine ld_a0 iL_law_1302 ?_
  refine ld_i4 iL_law_1303 ?_
  refine r_iconst iL_law_1305 ?_
  refine r_iadd iL_law_1306 ?_
  refine al_61 (n := (6 * n + 1)) (by omega) (by omega) (by omega) iL_law_1307 ?_
  refine ld_a0 iL_law_1308 ?_
  refine ld_i4 iL_law_1309 ?_
  refine r_iconst iL_law_1311 ?_
  refine r_iadd iL_law_1312 ?_
  refine al_61 (n := (6 * n + 2)) (by omega) (by omega) (by omega) iL_law_1313 ?_
  refine ld_a0 iL_law_1314 ?_
  refine ld_i4 iL_law_1315 ?_
  refine r_iconst iL_law_1317 ?_
  refine r_iadd iL_law_1318 ?_
  refine al_61 (n := (6 * n + 3)) (by omega) (by omega) (by omega) iL_law_1319 ?_
  refine ld_a0 iL_law_1320 ?_
  refine ld_i4 iL_law_1321 ?_
  refine r_iconst iL_law_1323 ?_
  refine r_iadd iL_law_1324 ?_
  refine al_61 (n := (6 * n + 4)) (by omega) (by omega) (by omega) iL_law_1325 ?_
  refine xX9_would kML_150 iL_law_1326 (by decide) (Nat.le_of_ble_eq_true rfl) rfl rfl ?_
  refine Ck.mapL ?_ (q_would h (hr _) (hr _) (hr _) (hr _))
  rintro z N1 g1 ⟨s1, hm⟩
  have s61 := s1.1 1 0
  refine ld_a2 iL_law_1329 ?_
  refine ld_a0 iL_law_1330 ?_
  refine ld_i4 iL_law_1331 ?_
  refine r_iconst iL_law_1333 ?_
  refine r_iadd iL_law_1334 ?_
  refine al_61 (n := (6 * n + 1)) (by omega) (by omega) (by omega) iL_law_1335 ?_
  rw [s1.1 0 (6 * n + 1)]
  refine ld_a0 iL_law_1336 ?_
  refine ld_i4 iL_law_1337 ?_
  refine r_iconst iL_law_1339 ?_
  refine r_iadd iL_law_1340 ?_
  refine al_61 (n := (6 * n + 2)) (by omega) (by omega) (by omega) iL_law_1341 ?_
  rw [s1.1 0 (6 * n + 2)]
  refine ld_a0 iL_law_1342 ?_
  refine ld_i4 iL_law_1343 ?_
  refine r_iconst iL_law_1345 ?_
  refine r_iadd iL_law_1346 ?_
  refine al_61 (n := (6 * n + 3)) (by omega) (by omega) (by omega) iL_law_1347 ?_
  rw [s1.1 0 (6 * n + 3)]
  refine ld_a0 iL_law_1348 ?_
  refine ld_i4 iL_law_1349 ?_
  refine r_iconst iL_law_1351 ?_
  refine r_iadd iL_law_1352 ?_
  refine al_61 (n := (6 * n + 4)) (by omega) (by omega) (by omega) iL_law_1353 ?_
  rw [s1.1 0 (6 * n + 4)]
  refine xX10_would kML_154 iL_law_1354 (by decide) (Nat.le_of_ble_eq_true rfl) rfl rfl ?_
  refine Ck.mapL ?_ hm
  rintro z2 N2 g2 ⟨e2, hf⟩
  subst e2
  refine r_lcmpS iL_law_1357 ?_
  refine r_ifeq iL_law_1358 (by omega) (fun h1358 => ?_) (fun h1358 => ?_)
  · exact next _ _ hf
  · exact absurd rfl h1358
theorem law_29 {n : Nat} (hI : Inv N g) (hr : ∀ j, rI (N 61 0 j)) (hn : 6 * n + 6 ≤ (N 61 1 0).toNat) (hl : (N 61 1 0).toNat ≤ 3072) (next : ∀ N' g', Fin2 N N' g' → AW K YL_law hL_law (qI Pq) 2059 [some (vr 61 0), some (vr 0 0), some (vr 40 0), some (vr 60 0), some (vi (6 * (n : Int))), none, none] [] N' g') : AW K YL_law hL_law (qI Pq) 1363 [some (vr 61 0), some (vr 0 0), some (vr 40 0), some (vr 60 0), some (vi (6 * (n : Int))), none, none] [] N g := by
  obtain ⟨d, wg, p, T, L, h⟩ := hI
  refine ld_a1 iL_law_1363 ?_
  refine ld_a0 iL_law_1364 ?_
  refine ld_i4 iL_law_1365 ?_
  refine r_iconst iL_law_1367 ?_
  refine r_iadd iL_law_1368 ?_
  refine al_61 (n := (6 * n + 1)) (by omega) (by omega) (by omega) iL_law_1369 ?_
  refine ld_a0 iL_law_1370 ?_
  refine ld_i4 iL_law_1371 ?_
  refine r_iconst iL_law_1373 ?_
  refine r_iadd iL_law_1374 ?_
  refine al_61 (n := (6 * n + 2)) (by omega) (by omega) (by omega) iL_law_1375 ?_
  refine xX9_both kML_155 iL_law_1376 (by decide) (Nat.le_of_ble_eq_true rfl) rfl rfl ?_
  refine Ck.mapL ?_ (q_both h (hr _) (hr _))
  rintro z N1 g1 ⟨s1, hm⟩
  have s61 := s1.1 1 0
  refine ld_a2 iL_law_1379 ?_
  refine ld_a0 iL_law_1380 ?_
  refine ld_i4 iL_law_1381 ?_
  refine r_iconst iL_law_1383 ?_
  refine r_iadd iL_law_1384 ?_
  refine al_61 (n := (6 * n + 1)) (by omega) (by omega) (by omega) iL_law_1385 ?_
  rw [s1.1 0 (6 * n + 1)]
  refine ld_a0 iL_law_1386 ?_
  refine ld_i4 iL_law_1387 ?_
  refine r_iconst iL_law_1389 ?_
  refine r_iadd iL_law_1390 ?_
  refine al_61 (n := (6 * n + 2)) (by omega) (by omega) (by omega) iL_law_1391 ?_
  rw [s1.1 0 (6 * n + 2)]
  refine xX10_both kML_158 iL_law_1392 (by decide) (Nat.le_of_ble_eq_true rfl) rfl rfl ?_
  refine Ck.mapL ?_ hm
  rintro z2 N2 g2 ⟨e2, hf⟩
  subst e2
  refine r_lcmpS iL_law_1395 ?_
  refine r_ifeq iL_law_1396 (by omega) (fun h1396 => ?_) (fun h1396 => ?_)
  · exact next _ _ hf
  · exact absurd rfl h1396
theorem law_30 {n : Nat} (hI : Inv N g) (hr : ∀ j, rI (N 61 0 j)) (hn : 6 * n + 6 ≤ (N 61 1 0).toNat) (hl : (N 61 1 0).toNat ≤ 3072) (next : ∀ N' g', Fin2 N N' g' → AW K YL_law hL_law (qI Pq) 2059 [some (vr 61 0), some (vr 0 0), some (vr 40 0), some (vr 60 0), some (vi (6 * (n : Int))), none, none] [] N' g') : AW K YL_law hL_law (qI Pq) 1401 [some (vr 61 0), some (vr 0 0), some (vr 40 0), some (vr 60 0), some (vi (6 * (n : Int))), none, none] [] N g := by
  obtain ⟨d, wg, p, T, L, h⟩ := hI
  refine ld_a1 iL_law_1401 ?_
  refine ld_a0 iL_law_1402 ?_
  refine ld_i4 iL_law_1403 ?_
  refine r_iconst iL_law_1405 ?_
  refine r_iadd iL_law_1406 ?_
  refine al_61 (n := (6 * n + 1)) (by omega) (by omega) (by omega) iL_law_1407 ?_
  refine ld_a0 iL_law_1408 ?_
  refine ld_i4 iL_law_1409 ?_
  refine r_iconst iL_law_1411 ?_
  refine r_iadd iL_law_1412 ?_
  refine al_61 (n := (6 * n + 2)) (by omega) (by omega) (by omega) iL_law_1413 ?_
  refine xX9_without kML_159 iL_law_1414 (by decide) (Nat.le_of_ble_eq_true rfl) rfl rfl ?_
  refine Ck.mapL ?_ (q_without h (hr _) (hr _))
  rintro z N1 g1 ⟨s1, hm⟩
  have s61 := s1.1 1 0
  refine ld_a2 iL_law_1417 ?_
  refine ld_a0 iL_law_1418 ?_
  refine ld_i4 iL_law_1419 ?_
  refine r_iconst iL_law_1421 ?_
  refine r_iadd iL_law_1422 ?_
  refine al_61 (n := (6 * n + 1)) (by omega) (by omega) (by omega) iL_law_1423 ?_
  rw [s1.1 0 (6 * n + 1)]
  refine ld_a0 iL_law_1424 ?_
  refine ld_i4 iL_law_1425 ?_
  refine r_iconst iL_law_1427 ?_
  refine r_iadd iL_law_1428 ?_
  refine al_61 (n := (6 * n + 2)) (by omega) (by omega) (by omega) iL_law_1429 ?_
  rw [s1.1 0 (6 * n + 2)]
  refine xX10_without kML_162 iL_law_1430 (by decide) (Nat.le_of_ble_eq_true rfl) rfl rfl ?_
  refine Ck.mapL ?_ hm
  rintro z2 N2 g2 ⟨e2, hf⟩
  subst e2
  refine r_lcmpS iL_law_1433 ?_
  refine r_ifeq iL_law_1434 (by omega) (fun h1434 => ?_) (fun h1434 => ?_)
  · exact next _ _ hf
  · exact absurd rfl h1434
theorem law_31 {n : Nat} (hI : Inv N g) (hr : ∀ j, rI (N 61 0 j)) (hn : 6 * n + 6 ≤ (N 61 1 0).toNat) (hl : (N 61 1 0).toNat ≤ 3072) (next : ∀ N' g', Fin2 N N' g' → AW K YL_law hL_law (qI Pq) 2059 [some (vr 61 0), some (vr 0 0), some (vr 40 0), some (vr 60 0), some (vi (6 * (n : Int))), none, none] [] N' g') : AW K YL_law hL_law (qI Pq) 1439 [some (vr 61 0), some (vr 0 0), some (vr 40 0), some (vr 60 0), some (vi (6 * (n : Int))), none, none] [] N g := by
  obtain ⟨d, wg, p, T, L, h⟩ := hI
  refine ld_a1 iL_law_1439 ?_
  refine ld_a0 iL_law_1440 ?_
  refine ld_i4 iL_law_1441 ?_
  refine r_iconst iL_law_1443 ?_
  refine r_iadd iL_law_1444 ?_
  refine al_61 (n := (6 * n + 1)) (by omega) (by omega) (by omega) iL_law_1445 ?_
  refine xX9_kept kML_163 iL_law_1446 (by decide) (Nat.le_of_ble_eq_true rfl) rfl rfl ?_
  refine Ck.mapL ?_ (q_kept h (hr _))
  rintro z N1 g1 ⟨s1, hm⟩
  have s61 := s1.1 1 0
  refine ld_a2 iL_law_1449 ?_
  refine ld_a0 iL_law_1450 ?_
  refine ld_i4 iL_law_1451 ?_
  refine r_iconst iL_law_1453 ?_
  refine r_iadd iL_law_1454 ?_
  refine al_61 (n := (6 * n + 1)) (by omega) (by omega) (by omega) iL_law_1455 ?_
  rw [s1.1 0 (6 * n + 1)]
  refine xX10_kept kML_166 iL_law_1456 (by decide) (Nat.le_of_ble_eq_true rfl) rfl rfl ?_
  refine Ck.mapL ?_ hm
  rintro z2 N2 g2 ⟨e2, hf⟩
  subst e2
  refine r_lcmpS iL_law_1459 ?_
  refine r_ifeq iL_law_1460 (by omega) (fun h1460 => ?_) (fun h1460 => ?_)
  · exact next _ _ hf
  · exact absurd rfl h1460
theorem law_32 {n : Nat} (hI : Inv N g) (hr : ∀ j, rI (N 61 0 j)) (hn : 6 * n + 6 ≤ (N 61 1 0).toNat) (hl : (N 61 1 0).toNat ≤ 3072) (next : ∀ N' g', Fin2 N N' g' → AW K YL_law hL_law (qI Pq) 2059 [some (vr 61 0), some (vr 0 0), some (vr 40 0), some (vr 60 0), some (vi (6 * (n : Int))), none, none] [] N' g') : AW K YL_law hL_law (qI Pq) 1465 [some (vr 61 0), some (vr 0 0), some (vr 40 0), some (vr 60 0), some (vi (6 * (n : Int))), none, none] [] N g := by
  obtain ⟨d, wg, p, T, L, h⟩ := hI
  refine ld_a1 iL_law_1465 ?_
  refine ld_a0 iL_law_1466 ?_
  refine ld_i4 iL_law_1467 ?_
  refine r_iconst iL_law_1469 ?_
  refine r_iadd iL_law_1470 ?_
  refine al_61 (n := (6 * n + 1)) (by omega) (by omega) (by omega) iL_law_1471 ?_
  refine xX9_first kML_167 iL_law_1472 (by decide) (Nat.le_of_ble_eq_true rfl) rfl rfl ?_
  refine Ck.mapI ?_ (q_first h (hr _))
  rintro z N1 g1 ⟨s1, hm⟩
  have s61 := s1.1 1 0
  refine ld_a2 iL_law_1475 ?_
  refine ld_a0 iL_law_1476 ?_
  refine ld_i4 iL_law_1477 ?_
  refine r_iconst iL_law_1479 ?_
  refine r_iadd iL_law_1480 ?_
  refine al_61 (n := (6 * n + 1)) (by omega) (by omega) (by omega) iL_law_1481 ?_
  rw [s1.1 0 (6 * n + 1)]
  refine xX10_first kML_170 iL_law_1482 (by decide) (Nat.le_of_ble_eq_true rfl) rfl rfl ?_
  refine Ck.mapI ?_ hm
  rintro z2 N2 g2 ⟨e2, hf⟩
  subst e2
  refine r_icmpeqS iL_law_1485 ?_
  exact next _ _ hf
theorem law_33 {n : Nat} (hI : Inv N g) (hr : ∀ j, rI (N 61 0 j)) (hn : 6 * n + 6 ≤ (N 61 1 0).toNat) (hl : (N 61 1 0).toNat ≤ 3072) (next : ∀ N' g', Fin2 N N' g' → AW K YL_law hL_law (qI Pq) 2059 [some (vr 61 0), some (vr 0 0), some (vr 40 0), some (vr 60 0), some (vi (6 * (n : Int))), none, none] [] N' g') : AW K YL_law hL_law (qI Pq) 1490 [some (vr 61 0), some (vr 0 0), some (vr 40 0), some (vr 60 0), some (vi (6 * (n : Int))), none, none] [] N g := by
  obtain ⟨d, wg, p, T, L, h⟩ := hI
  refine ld_a1 iL_law_1490 ?_
  refine ld_a0 iL_law_1491 ?_
  refine ld_i4 iL_law_1492 ?_
  refine r_iconst iL_law_1494 ?_
  refine r_iadd iL_law_1495 ?_
  refine al_61 (n := (6 * n + 1)) (by omega) (by omega) (by omega) iL_law_1496 ?_
  refine ld_a0 iL_law_1497 ?_
  refine ld_i4 iL_law_1498 ?_
  refine r_iconst iL_law_1500 ?_
  refine r_iadd iL_law_1501 ?_
  refine al_61 (n := (6 * n + 2)) (by omega) (by omega) (by omega) iL_law_1502 ?_
  refine r_i2l (by exact hr _) iL_law_1503 ?_
  refine r_bipush (by decide) iL_law_1504 ?_
  refine r_lshl (z := l32 (N 61 0 (6 * n + 2))) (ofL _).symm iL_law_1506 ?_
  refine ld_a0 iL_law_1507 ?_
  refine ld_i4 iL_law_1508 ?_
  refine r_iconst iL_law_1510 ?_
  refine r_iadd iL_law_1511 ?_
  refine al_61 (n := (6 * n + 3)) (by omega) (by omega) (by omega) iL_law_1512 ?_
  refine r_i2l (by exact hr _) iL_law_1513 ?_
  refine r_ldc2 (z := 4294967295) kKL_79 (by decide) iL_law_1514 ?_
  refine r_land (z := lo32 (N 61 0 (6 * n + 3))) (ofL _).symm iL_law_1517 ?_
  refine r_lor (z := lgA (N 61 0 (6 * n + 2)) (N 61 0 (6 * n + 3))) (ofL _).symm iL_law_1518 ?_
  refine xX9_raise kML_171 iL_law_1519 (by decide) (Nat.le_of_ble_eq_true rfl) rfl rfl ?_
  refine Ck.mapI ?_ (q_raise h (hr _) (lgA_r _ _))
  rintro z N1 g1 ⟨s1, hm⟩
  have s61 := s1.1 1 0
  refine ld_a2 iL_law_1522 ?_
  refine ld_a0 iL_law_1523 ?_
  refine ld_i4 iL_law_1524 ?_
  refine r_iconst iL_law_1526 ?_
  refine r_iadd iL_law_1527 ?_
  refine al_61 (n := (6 * n + 1)) (by omega) (by omega) (by omega) iL_law_1528 ?_
  rw [s1.1 0 (6 * n + 1)]
  refine ld_a0 iL_law_1529 ?_
  refine ld_i4 iL_law_1530 ?_
  refine r_iconst iL_law_1532 ?_
  refine r_iadd iL_law_1533 ?_
  refine al_61 (n := (6 * n + 2)) (by omega) (by omega) (by omega) iL_law_1534 ?_
  rw [s1.1 0 (6 * n + 2)]
  refine r_i2l (by exact hr _) iL_law_1535 ?_
  refine r_bipush (by decide) iL_law_1536 ?_
  refine r_lshl (z := l32 (N 61 0 (6 * n + 2))) (ofL _).symm iL_law_1538 ?_
  refine ld_a0 iL_law_1539 ?_
  refine ld_i4 iL_law_1540 ?_
  refine r_iconst iL_law_1542 ?_
  refine r_iadd iL_law_1543 ?_
  refine al_61 (n := (6 * n + 3)) (by omega) (by omega) (by omega) iL_law_1544 ?_
  rw [s1.1 0 (6 * n + 3)]
  refine r_i2l (by exact hr _) iL_law_1545 ?_
  refine r_ldc2 (z := 4294967295) kKL_79 (by decide) iL_law_1546 ?_
  refine r_land (z := lo32 (N 61 0 (6 * n + 3))) (ofL _).symm iL_law_1549 ?_
  refine r_lor (z := lgA (N 61 0 (6 * n + 2)) (N 61 0 (6 * n + 3))) (ofL _).symm iL_law_1550 ?_
  refine xX10_raise kML_175 iL_law_1551 (by decide) (Nat.le_of_ble_eq_true rfl) rfl rfl ?_
  refine Ck.mapI ?_ hm
  rintro z2 N2 g2 ⟨e2, hf⟩
  subst e2
  refine r_icmpeqS iL_law_1554 ?_
  exact next _ _ hf
theorem law_34 {n : Nat} (hI : Inv N g) (hr : ∀ j, rI (N 61 0 j)) (hn : 6 * n + 6 ≤ (N 61 1 0).toNat) (hl : (N 61 1 0).toNat ≤ 3072) (next : ∀ N' g', Fin2 N N' g' → AW K YL_law hL_law (qI Pq) 2059 [some (vr 61 0), some (vr 0 0), some (vr 40 0), some (vr 60 0), some (vi (6 * (n : Int))), none, none] [] N' g') : AW K YL_law hL_law (qI Pq) 1559 [some (vr 61 0), some (vr 0 0), some (vr 40 0), some (vr 60 0), some (vi (6 * (n : Int))), none, none] [] N g := by
  obtain ⟨d, wg, p, T, L, h⟩ := hI
  refine ld_a1 iL_law_1559 ?_
  refine ld_a0 iL_law_1560 ?_
  refine ld_i4 iL_law_1561 ?_
  refine r_iconst iL_law_1563 ?_
  refine r_iadd iL_law_1564 ?_
  refine al_61 (n := (6 * n + 1)) (by omega) (by omega) (by omega) iL_law_1565 ?_
  refine ld_a0 iL_law_1566 ?_
  refine ld_i4 iL_law_1567 ?_
  refine r_iconst iL_law_1569 ?_
  refine r_iadd iL_law_1570 ?_
  refine al_61 (n := (6 * n + 2)) (by omega) (by omega) (by omega) iL_law_1571 ?_
  refine ld_a0 iL_law_1572 ?_
  refine ld_i4 iL_law_1573 ?_
  refine r_iconst iL_law_1575 ?_
  refine r_iadd iL_law_1576 ?_
  refine al_61 (n := (6 * n + 3)) (by omega) (by omega) (by omega) iL_law_1577 ?_
  refine xX9_over kML_176 iL_law_1578 (by decide) (Nat.le_of_ble_eq_true rfl) rfl rfl ?_
  refine Ck.mapI ?_ (q_over h (hr _) (hr _) (hr _))
  rintro z N1 g1 ⟨s1, hm⟩
  have s61 := s1.1 1 0
  refine ld_a2 iL_law_1581 ?_
  refine ld_a0 iL_law_1582 ?_
  refine ld_i4 iL_law_1583 ?_
  refine r_iconst iL_law_1585 ?_
  refine r_iadd iL_law_1586 ?_
  refine al_61 (n := (6 * n + 1)) (by omega) (by omega) (by omega) iL_law_1587 ?_
  rw [s1.1 0 (6 * n + 1)]
  refine ld_a0 iL_law_1588 ?_
  refine ld_i4 iL_law_1589 ?_
  refine r_iconst iL_law_1591 ?_
  refine r_iadd iL_law_1592 ?_
  refine al_61 (n := (6 * n + 2)) (by omega) (by omega) (by omega) iL_law_1593 ?_
  rw [s1.1 0 (6 * n + 2)]
  refine ld_a0 iL_law_1594 ?_
  refine ld_i4 iL_law_1595 ?_
  refine r_iconst iL_law_1597 ?_
  refine r_iadd iL_law_1598 ?_
  refine al_61 (n := (6 * n + 3)) (by omega) (by omega) (by omega) iL_law_1599 ?_
  rw [s1.1 0 (6 * n + 3)]
  refine xX10_over kML_179 iL_law_1600 (by decide) (Nat.le_of_ble_eq_true rfl) rfl rfl ?_
  refine Ck.mapI ?_ hm
  rintro z2 N2 g2 ⟨e2, hf⟩
  subst e2
  refine r_icmpeqS iL_law_1603 ?_
  exact next _ _ hf
theorem law_35 {n : Nat} (hI : Inv N g) (hr : ∀ j, rI (N 61 0 j)) (hn : 6 * n + 6 ≤ (N 61 1 0).toNat) (hl : (N 61 1 0).toNat ≤ 3072) (next : ∀ N' g', Fin2 N N' g' → AW K YL_law hL_law (qI Pq) 2059 [some (vr 61 0), some (vr 0 0), some (vr 40 0), some (vr 60 0), some (vi (6 * (n : Int))), none, none] [] N' g') : AW K YL_law hL_law (qI Pq) 1608 [some (vr 61 0), some (vr 0 0), some (vr 40 0), some (vr 60 0), some (vi (6 * (n : Int))), none, none] [] N g := by
  obtain ⟨d, wg, p, T, L, h⟩ := hI
  refine ld_a1 iL_law_1608 ?_
  refine ld_a0 iL_law_1609 ?_
  refine ld_i4 iL_law_1610 ?_
  refine r_iconst iL_law_1612 ?_
  refine r_iadd iL_law_1613 ?_
  refine al_61 (n := (6 * n + 1)) (by omega) (by omega) (by omega) iL_law_1614 ?_
  refine r_i2l (by exact hr _) iL_law_1615 ?_
  refine r_bipush (by decide) iL_law_1616 ?_
  refine r_lshl (z := l32 (N 61 0 (6 * n + 1))) (ofL _).symm iL_law_1618 ?_
  refine ld_a0 iL_law_1619 ?_
  refine ld_i4 iL_law_1620 ?_
  refine r_iconst iL_law_1622 ?_
  refine r_iadd iL_law_1623 ?_
  refine al_61 (n := (6 * n + 2)) (by omega) (by omega) (by omega) iL_law_1624 ?_
  refine r_i2l (by exact hr _) iL_law_1625 ?_
  refine r_ldc2 (z := 4294967295) kKL_79 (by decide) iL_law_1626 ?_
  refine r_land (z := lo32 (N 61 0 (6 * n + 2))) (ofL _).symm iL_law_1629 ?_
  refine r_lor (z := lgA (N 61 0 (6 * n + 1)) (N 61 0 (6 * n + 2))) (ofL _).symm iL_law_1630 ?_
  refine ld_a0 iL_law_1631 ?_
  refine ld_i4 iL_law_1632 ?_
  refine r_iconst iL_law_1634 ?_
  refine r_iadd iL_law_1635 ?_
  refine al_61 (n := (6 * n + 3)) (by omega) (by omega) (by omega) iL_law_1636 ?_
  refine xX9_inKind kML_180 iL_law_1637 (by decide) (Nat.le_of_ble_eq_true rfl) rfl rfl ?_
  refine Ck.mapI ?_ (q_inKind h (lgA_r _ _) (hr _))
  rintro z N1 g1 ⟨s1, hm⟩
  have s61 := s1.1 1 0
  refine ld_a2 iL_law_1640 ?_
  refine ld_a0 iL_law_1641 ?_
  refine ld_i4 iL_law_1642 ?_
  refine r_iconst iL_law_1644 ?_
  refine r_iadd iL_law_1645 ?_
  refine al_61 (n := (6 * n + 1)) (by omega) (by omega) (by omega) iL_law_1646 ?_
  rw [s1.1 0 (6 * n + 1)]
  refine r_i2l (by exact hr _) iL_law_1647 ?_
  refine r_bipush (by decide) iL_law_1648 ?_
  refine r_lshl (z := l32 (N 61 0 (6 * n + 1))) (ofL _).symm iL_law_1650 ?_
  refine ld_a0 iL_law_1651 ?_
  refine ld_i4 iL_law_1652 ?_
  refine r_iconst iL_law_1654 ?_
  refine r_iadd iL_law_1655 ?_
  refine al_61 (n := (6 * n + 2)) (by omega) (by omega) (by omega) iL_law_1656 ?_
  rw [s1.1 0 (6 * n + 2)]
  refine r_i2l (by exact hr _) iL_law_1657 ?_
  refine r_ldc2 (z := 4294967295) kKL_79 (by decide) iL_law_1658 ?_
  refine r_land (z := lo32 (N 61 0 (6 * n + 2))) (ofL _).symm iL_law_1661 ?_
  refine r_lor (z := lgA (N 61 0 (6 * n + 1)) (N 61 0 (6 * n + 2))) (ofL _).symm iL_law_1662 ?_
  refine ld_a0 iL_law_1663 ?_
  refine ld_i4 iL_law_1664 ?_
  refine r_iconst iL_law_1666 ?_
  refine r_iadd iL_law_1667 ?_
  refine al_61 (n := (6 * n + 3)) (by omega) (by omega) (by omega) iL_law_1668 ?_
  rw [s1.1 0 (6 * n + 3)]
  refine xX10_inKind kML_183 iL_law_1669 (by decide) (Nat.le_of_ble_eq_true rfl) rfl rfl ?_
  refine Ck.mapI ?_ hm
  rintro z2 N2 g2 ⟨e2, hf⟩
  subst e2
  refine r_icmpeqS iL_law_1672 ?_
  exact next _ _ hf
theorem law_36 {n : Nat} (hI : Inv N g) (hr : ∀ j, rI (N 61 0 j)) (hn : 6 * n + 6 ≤ (N 61 1 0).toNat) (hl : (N 61 1 0).toNat ≤ 3072) (next : ∀ N' g', Fin2 N N' g' → AW K YL_law hL_law (qI Pq) 2059 [some (vr 61 0), some (vr 0 0), some (vr 40 0), some (vr 60 0), some (vi (6 * (n : Int))), none, none] [] N' g') : AW K YL_law hL_law (qI Pq) 1677 [some (vr 61 0), some (vr 0 0), some (vr 40 0), some (vr 60 0), some (vi (6 * (n : Int))), none, none] [] N g := by
  obtain ⟨d, wg, p, T, L, h⟩ := hI
  refine ld_a1 iL_law_1677 ?_
  refine ld_a0 iL_law_1678 ?_
  refine ld_i4 iL_law_1679 ?_
  refine r_iconst iL_law_1681 ?_
  refine r_iadd iL_law_1682 ?_
  refine al_61 (n := (6 * n + 1)) (by omega) (by omega) (by omega) iL_law_1683 ?_
  refine ld_a0 iL_law_1684 ?_
  refine ld_i4 iL_law_1685 ?_
  refine r_iconst iL_law_1687 ?_
  refine r_iadd iL_law_1688 ?_
  refine al_61 (n := (6 * n + 2)) (by omega) (by omega) (by omega) iL_law_1689 ?_
  refine xX9_through kML_184 iL_law_1690 (by decide) (Nat.le_of_ble_eq_true rfl) rfl rfl ?_
  refine Ck.mapL ?_ (q_through h (hr _) (hr _))
  rintro z N1 g1 ⟨s1, hm⟩
  have s61 := s1.1 1 0
  refine ld_a2 iL_law_1693 ?_
  refine ld_a0 iL_law_1694 ?_
  refine ld_i4 iL_law_1695 ?_
  refine r_iconst iL_law_1697 ?_
  refine r_iadd iL_law_1698 ?_
  refine al_61 (n := (6 * n + 1)) (by omega) (by omega) (by omega) iL_law_1699 ?_
  rw [s1.1 0 (6 * n + 1)]
  refine ld_a0 iL_law_1700 ?_
  refine ld_i4 iL_law_1701 ?_
  refine r_iconst iL_law_1703 ?_
  refine r_iadd iL_law_1704 ?_
  refine al_61 (n := (6 * n + 2)) (by omega) (by omega) (by omega) iL_law_1705 ?_
  rw [s1.1 0 (6 * n + 2)]
  refine xX10_through kML_187 iL_law_1706 (by decide) (Nat.le_of_ble_eq_true rfl) rfl rfl ?_
  refine Ck.mapL ?_ hm
  rintro z2 N2 g2 ⟨e2, hf⟩
  subst e2
  refine r_lcmpS iL_law_1709 ?_
  refine r_ifeq iL_law_1710 (by omega) (fun h1710 => ?_) (fun h1710 => ?_)
  · exact next _ _ hf
  · exact absurd rfl h1710
theorem law_37 {n : Nat} (hI : Inv N g) (hr : ∀ j, rI (N 61 0 j)) (hn : 6 * n + 6 ≤ (N 61 1 0).toNat) (hl : (N 61 1 0).toNat ≤ 3072) (next : ∀ N' g', Fin2 N N' g' → AW K YL_law hL_law (qI Pq) 2059 [some (vr 61 0), some (vr 0 0), some (vr 40 0), some (vr 60 0), some (vi (6 * (n : Int))), none, none] [] N' g') : AW K YL_law hL_law (qI Pq) 1715 [some (vr 61 0), some (vr 0 0), some (vr 40 0), some (vr 60 0), some (vi (6 * (n : Int))), none, none] [] N g := by
  obtain ⟨d, wg, p, T, L, h⟩ := hI
  refine ld_a1 iL_law_1715 ?_
  refine ld_a0 iL_law_1716 ?_
  refine ld_i4 iL_law_1717 ?_
  refine r_iconst iL_law_1719 ?_
  refine r_iadd iL_law_1720 ?_
  refine al_61 (n := (6 * n + 1)) (by omega) (by omega) (by omega) iL_law_1721 ?_
  refine ld_a0 iL_law_1722 ?_
  refine ld_i4 iL_law_1723 ?_
  refine r_iconst iL_law_1725 ?_
  refine r_iadd iL_law_1726 ?_
  refine al_61 (n := (6 * n + 2)) (by omega) (by omega) (by omega) iL_law_1727 ?_
  refine ld_a0 iL_law_1728 ?_
  refine ld_i4 iL_law_1729 ?_
  refine r_iconst iL_law_1731 ?_
  refine r_iadd iL_law_1732 ?_
  refine al_61 (n := (6 * n + 3)) (by omega) (by omega) (by omega) iL_law_1733 ?_
  refine xX9_crossings kML_188 iL_law_1734 (by decide) (Nat.le_of_ble_eq_true rfl) rfl rfl ?_
  refine Ck.mapL ?_ (q_crossings h (hr _) (hr _) (hr _))
  rintro z N1 g1 ⟨s1, hm⟩
  have s61 := s1.1 1 0
  refine ld_a2 iL_law_1737 ?_
  refine ld_a0 iL_law_1738 ?_
  refine ld_i4 iL_law_1739 ?_
  refine r_iconst iL_law_1741 ?_
  refine r_iadd iL_law_1742 ?_
  refine al_61 (n := (6 * n + 1)) (by omega) (by omega) (by omega) iL_law_1743 ?_
  rw [s1.1 0 (6 * n + 1)]
  refine ld_a0 iL_law_1744 ?_
  refine ld_i4 iL_law_1745 ?_
  refine r_iconst iL_law_1747 ?_
  refine r_iadd iL_law_1748 ?_
  refine al_61 (n := (6 * n + 2)) (by omega) (by omega) (by omega) iL_law_1749 ?_
  rw [s1.1 0 (6 * n + 2)]
  refine ld_a0 iL_law_1750 ?_
  refine ld_i4 iL_law_1751 ?_
  refine r_iconst iL_law_1753 ?_
  refine r_iadd iL_law_1754 ?_
  refine al_61 (n := (6 * n + 3)) (by omega) (by omega) (by omega) iL_law_1755 ?_
  rw [s1.1 0 (6 * n + 3)]
  refine xX10_crossings kML_191 iL_law_1756 (by decide) (Nat.le_of_ble_eq_true rfl) rfl rfl ?_
  refine Ck.mapL ?_ hm
  rintro z2 N2 g2 ⟨e2, hf⟩
  subst e2
  refine r_lcmpS iL_law_1759 ?_
  refine r_ifeq iL_law_1760 (by omega) (fun h1760 => ?_) (fun h1760 => ?_)
  · exact next _ _ hf
  · exact absurd rfl h1760
theorem law_38 {n : Nat} (hI : Inv N g) (hr : ∀ j, rI (N 61 0 j)) (hn : 6 * n + 6 ≤ (N 61 1 0).toNat) (hl : (N 61 1 0).toNat ≤ 3072) (next : ∀ N' g', Fin2 N N' g' → AW K YL_law hL_law (qI Pq) 2059 [some (vr 61 0), some (vr 0 0), some (vr 40 0), some (vr 60 0), some (vi (6 * (n : Int))), none, none] [] N' g') : AW K YL_law hL_law (qI Pq) 1765 [some (vr 61 0), some (vr 0 0), some (vr 40 0), some (vr 60 0), some (vi (6 * (n : Int))), none, none] [] N g := by
  obtain ⟨d, wg, p, T, L, h⟩ := hI
  refine ld_a1 iL_law_1765 ?_
  refine ld_a0 iL_law_1766 ?_
  refine ld_i4 iL_law_1767 ?_
  refine r_iconst iL_law_1769 ?_
  refine r_iadd iL_law_1770 ?_
  refine al_61 (n := (6 * n + 1)) (by omega) (by omega) (by omega) iL_law_1771 ?_
  refine ld_a0 iL_law_1772 ?_
  refine ld_i4 iL_law_1773 ?_
  refine r_iconst iL_law_1775 ?_
  refine r_iadd iL_law_1776 ?_
  refine al_61 (n := (6 * n + 2)) (by omega) (by omega) (by omega) iL_law_1777 ?_
  refine xX9_kinks kML_192 iL_law_1778 (by decide) (Nat.le_of_ble_eq_true rfl) rfl rfl ?_
  refine Ck.mapI ?_ (q_kinks h (hr _) (hr _))
  rintro z N1 g1 ⟨s1, hm⟩
  have s61 := s1.1 1 0
  refine ld_a2 iL_law_1781 ?_
  refine ld_a0 iL_law_1782 ?_
  refine ld_i4 iL_law_1783 ?_
  refine r_iconst iL_law_1785 ?_
  refine r_iadd iL_law_1786 ?_
  refine al_61 (n := (6 * n + 1)) (by omega) (by omega) (by omega) iL_law_1787 ?_
  rw [s1.1 0 (6 * n + 1)]
  refine ld_a0 iL_law_1788 ?_
  refine ld_i4 iL_law_1789 ?_
  refine r_iconst iL_law_1791 ?_
  refine r_iadd iL_law_1792 ?_
  refine al_61 (n := (6 * n + 2)) (by omega) (by omega) (by omega) iL_law_1793 ?_
  rw [s1.1 0 (6 * n + 2)]
  refine xX10_kinks kML_195 iL_law_1794 (by decide) (Nat.le_of_ble_eq_true rfl) rfl rfl ?_
  refine Ck.mapI ?_ hm
  rintro z2 N2 g2 ⟨e2, hf⟩
  subst e2
  refine r_icmpeqS iL_law_1797 ?_
  exact next _ _ hf
theorem law_39 {n : Nat} (hI : Inv N g) (hr : ∀ j, rI (N 61 0 j)) (hn : 6 * n + 6 ≤ (N 61 1 0).toNat) (hl : (N 61 1 0).toNat ≤ 3072) (next : ∀ N' g', Fin2 N N' g' → AW K YL_law hL_law (qI Pq) 2059 [some (vr 61 0), some (vr 0 0), some (vr 40 0), some (vr 60 0), some (vi (6 * (n : Int))), none, none] [] N' g') : AW K YL_law hL_law (qI Pq) 1802 [some (vr 61 0), some (vr 0 0), some (vr 40 0), some (vr 60 0), some (vi (6 * (n : Int))), none, none] [] N g := by
  obtain ⟨d, wg, p, T, L, h⟩ := hI
  refine ld_a1 iL_law_1802 ?_
  refine ld_a0 iL_law_1803 ?_
  refine ld_i4 iL_law_1804 ?_
  refine r_iconst iL_law_1806 ?_
  refine r_iadd iL_law_1807 ?_
  refine al_61 (n := (6 * n + 1)) (by omega) (by omega) (by omega) iL_law_1808 ?_
  refine ld_a0 iL_law_1809 ?_
  refine ld_i4 iL_law_1810 ?_
  refine r_iconst iL_law_1812 ?_
  refine r_iadd iL_law_1813 ?_
  refine al_61 (n := (6 * n + 2)) (by omega) (by omega) (by omega) iL_law_1814 ?_
  refine r_i2l (by exact hr _) iL_law_1815 ?_
  refine r_bipush (by decide) iL_law_1816 ?_
  refine r_lshl (z := l32 (N 61 0 (6 * n + 2))) (ofL _).symm iL_law_1818 ?_
  refine ld_a0 iL_law_1819 ?_
  refine ld_i4 iL_law_1820 ?_
  refine r_iconst iL_law_1822 ?_
  refine r_iadd iL_law_1823 ?_
  refine al_61 (n := (6 * n + 3)) (by omega) (by omega) (by omega) iL_law_1824 ?_
  refine r_i2l (by exact hr _) iL_law_1825 ?_
  refine r_ldc2 (z := 4294967295) kKL_79 (by decide) iL_law_1826 ?_
  refine r_land (z := lo32 (N 61 0 (6 * n + 3))) (ofL _).symm iL_law_1829 ?_
  refine r_lor (z := lgA (N 61 0 (6 * n + 2)) (N 61 0 (6 * n + 3))) (ofL _).symm iL_law_1830 ?_
  refine xX9_until kML_196 iL_law_1831 (by decide) (Nat.le_of_ble_eq_true rfl) rfl rfl ?_
  refine Ck.mapI ?_ (q_until h (hr _) (lgA_r _ _))
  rintro z N1 g1 ⟨s1, hm⟩
  have s61 := s1.1 1 0
  refine ld_a2 iL_law_1834 ?_
  refine ld_a0 iL_law_1835 ?_
  refine ld_i4 iL_law_1836 ?_
  refine r_iconst iL_law_1838 ?_
  refine r_iadd iL_law_1839 ?_
  refine al_61 (n := (6 * n + 1)) (by omega) (by omega) (by omega) iL_law_1840 ?_
  rw [s1.1 0 (6 * n + 1)]
  refine ld_a0 iL_law_1841 ?_
  refine ld_i4 iL_law_1842 ?_
  refine r_iconst iL_law_1844 ?_
  refine r_iadd iL_law_1845 ?_
  refine al_61 (n := (6 * n + 2)) (by omega) (by omega) (by omega) iL_law_1846 ?_
  rw [s1.1 0 (6 * n + 2)]
  refine r_i2l (by exact hr _) iL_law_1847 ?_
  refine r_bipush (by decide) iL_law_1848 ?_
  refine r_lshl (z := l32 (N 61 0 (6 * n + 2))) (ofL _).symm iL_law_1850 ?_
  refine ld_a0 iL_law_1851 ?_
  refine ld_i4 iL_law_1852 ?_
  refine r_iconst iL_law_1854 ?_
  refine r_iadd iL_law_1855 ?_
  refine al_61 (n := (6 * n + 3)) (by omega) (by omega) (by omega) iL_law_1856 ?_
  rw [s1.1 0 (6 * n + 3)]
  refine r_i2l (by exact hr _) iL_law_1857 ?_
  refine r_ldc2 (z := 4294967295) kKL_79 (by decide) iL_law_1858 ?_
  refine r_land (z := lo32 (N 61 0 (6 * n + 3))) (ofL _).symm iL_law_1861 ?_
  refine r_lor (z := lgA (N 61 0 (6 * n + 2)) (N 61 0 (6 * n + 3))) (ofL _).symm iL_law_1862 ?_
  refine xX10_until kML_199 iL_law_1863 (by decide) (Nat.le_of_ble_eq_true rfl) rfl rfl ?_
  refine Ck.mapI ?_ hm
  rintro z2 N2 g2 ⟨e2, hf⟩
  subst e2
  refine r_icmpeqS iL_law_1866 ?_
  exact next _ _ hf
theorem law_40 {n : Nat} (hI : Inv N g) (hr : ∀ j, rI (N 61 0 j)) (hn : 6 * n + 6 ≤ (N 61 1 0).toNat) (hl : (N 61 1 0).toNat ≤ 3072) (next : ∀ N' g', Fin2 N N' g' → AW K YL_law hL_law (qI Pq) 2059 [some (vr 61 0), some (vr 0 0), some (vr 40 0), some (vr 60 0), some (vi (6 * (n : Int))), none, none] [] N' g') : AW K YL_law hL_law (qI Pq) 1871 [some (vr 61 0), some (vr 0 0), some (vr 40 0), some (vr 60 0), some (vi (6 * (n : Int))), none, none] [] N g := by
  obtain ⟨d, wg, p, T, L, h⟩ := hI
  refine ld_a1 iL_law_1871 ?_
  refine ld_a0 iL_law_1872 ?_
  refine ld_i4 iL_law_1873 ?_
  refine r_iconst iL_law_1875 ?_
  refine r_iadd iL_law_1876 ?_
  refine al_61 (n := (6 * n + 1)) (by omega) (by omega) (by omega) iL_law_1877 ?_
  refine xX9_free kML_200 iL_law_1878 (by decide) (Nat.le_of_ble_eq_true rfl) rfl rfl ?_
  refine Ck.mapI ?_ (q_free h (hr _))
  rintro z N1 g1 ⟨s1, hm⟩
  have s61 := s1.1 1 0
  refine ld_a2 iL_law_1881 ?_
  refine ld_a0 iL_law_1882 ?_
  refine ld_i4 iL_law_1883 ?_
  refine r_iconst iL_law_1885 ?_
  refine r_iadd iL_law_1886 ?_
  refine al_61 (n := (6 * n + 1)) (by omega) (by omega) (by omega) iL_law_1887 ?_
  rw [s1.1 0 (6 * n + 1)]
  refine xX10_free kML_203 iL_law_1888 (by decide) (Nat.le_of_ble_eq_true rfl) rfl rfl ?_
  refine Ck.mapI ?_ hm
  rintro z2 N2 g2 ⟨e2, hf⟩
  subst e2
  refine r_icmpeqS iL_law_1891 ?_
  exact next _ _ hf
theorem law_41 {n : Nat} (hI : Inv N g) (hr : ∀ j, rI (N 61 0 j)) (hn : 6 * n + 6 ≤ (N 61 1 0).toNat) (hl : (N 61 1 0).toNat ≤ 3072) (next : ∀ N' g', Fin2 N N' g' → AW K YL_law hL_law (qI Pq) 2059 [some (vr 61 0), some (vr 0 0), some (vr 40 0), some (vr 60 0), some (vi (6 * (n : Int))), none, none] [] N' g') : AW K YL_law hL_law (qI Pq) 1896 [some (vr 61 0), some (vr 0 0), some (vr 40 0), some (vr 60 0), some (vi (6 * (n : Int))), none, none] [] N g := by
  obtain ⟨d, wg, p, T, L, h⟩ := hI
  refine ld_a1 iL_law_1896 ?_
  refine ld_a0 iL_law_1897 ?_
  refine ld_i4 iL_law_1898 ?_
  refine r_iconst iL_law_1900 ?_
  refine r_iadd iL_law_1901 ?_
  refine al_61 (n := (6 * n + 1)) (by omega) (by omega) (by omega) iL_law_1902 ?_
  refine ld_a0 iL_law_1903 ?_
  refine ld_i4 iL_law_1904 ?_
  refine r_iconst iL_law_1906 ?_
  refine r_iadd iL_law_1907 ?_
  refine al_61 (n := (6 * n + 2)) (by omega) (by omega) (by omega) iL_law_1908 ?_
  refine ld_a0 iL_law_1909 ?_
  refine ld_i4 iL_law_1910 ?_
  refine r_iconst iL_law_1912 ?_
  refine r_iadd iL_law_1913 ?_
  refine al_61 (n := (6 * n + 3)) (by omega) (by omega) (by omega) iL_law_1914 ?_
  refine xX9_putIn kML_204 iL_law_1915 (by decide) (Nat.le_of_ble_eq_true rfl) rfl rfl ?_
  refine Ck.mapL ?_ (q_putIn h (hr _) (hr _) (hr _))
  rintro z N1 g1 ⟨s1, hm⟩
  have s61 := s1.1 1 0
  refine ld_a2 iL_law_1918 ?_
  refine ld_a0 iL_law_1919 ?_
  refine ld_i4 iL_law_1920 ?_
  refine r_iconst iL_law_1922 ?_
  refine r_iadd iL_law_1923 ?_
  refine al_61 (n := (6 * n + 1)) (by omega) (by omega) (by omega) iL_law_1924 ?_
  rw [s1.1 0 (6 * n + 1)]
  refine ld_a0 iL_law_1925 ?_
  refine ld_i4 iL_law_1926 ?_
  refine r_iconst iL_law_1928 ?_
  refine r_iadd iL_law_1929 ?_
  refine al_61 (n := (6 * n + 2)) (by omega) (by omega) (by omega) iL_law_1930 ?_
  rw [s1.1 0 (6 * n + 2)]
  refine ld_a0 iL_law_1931 ?_
  refine ld_i4 iL_law_1932 ?_
  refine r_iconst iL_law_1934 ?_
  refine r_iadd iL_law_1935 ?_
  refine al_61 (n := (6 * n + 3)) (by omega) (by omega) (by omega) iL_law_1936 ?_
  rw [s1.1 0 (6 * n + 3)]
  refine xX10_putIn kML_207 iL_law_1937 (by decide) (Nat.le_of_ble_eq_true rfl) rfl rfl ?_
  refine Ck.mapL ?_ hm
  rintro z2 N2 g2 ⟨e2, hf⟩
  subst e2
  refine r_lcmpS iL_law_1940 ?_
  refine r_ifeq iL_law_1941 (by omega) (fun h1941 => ?_) (fun h1941 => ?_)
  · exact next _ _ hf
  · exact absurd rfl h1941
theorem law_42 {n : Nat} (hI : Inv N g) (hr : ∀ j, rI (N 61 0 j)) (hn : 6 * n + 6 ≤ (N 61 1 0).toNat) (hl : (N 61 1 0).toNat ≤ 3072) (next : ∀ N' g', Fin2 N N' g' → AW K YL_law hL_law (qI Pq) 2059 [some (vr 61 0), some (vr 0 0), some (vr 40 0), some (vr 60 0), some (vi (6 * (n : Int))), none, none] [] N' g') : AW K YL_law hL_law (qI Pq) 1946 [some (vr 61 0), some (vr 0 0), some (vr 40 0), some (vr 60 0), some (vi (6 * (n : Int))), none, none] [] N g := by
  obtain ⟨d, wg, p, T, L, h⟩ := hI
  refine ld_a1 iL_law_1946 ?_
  refine ld_a0 iL_law_1947 ?_
  refine ld_i4 iL_law_1948 ?_
  refine r_iconst iL_law_1950 ?_
  refine r_iadd iL_law_1951 ?_
  refine al_61 (n := (6 * n + 1)) (by omega) (by omega) (by omega) iL_law_1952 ?_
  refine ld_a0 iL_law_1953 ?_
  refine ld_i4 iL_law_1954 ?_
  refine r_iconst iL_law_1956 ?_
  refine r_iadd iL_law_1957 ?_
  refine al_61 (n := (6 * n + 2)) (by omega) (by omega) (by omega) iL_law_1958 ?_
  refine xX9_spell kML_208 iL_law_1959 (by decide) (Nat.le_of_ble_eq_true rfl) rfl rfl ?_
  refine Ck.mapI ?_ (q_spell h (hr _) (hr _))
  rintro z N1 g1 ⟨s1, hm⟩
  have s61 := s1.1 1 0
  refine ld_a2 iL_law_1962 ?_
  refine ld_a0 iL_law_1963 ?_
  refine ld_i4 iL_law_1964 ?_
  refine r_iconst iL_law_1966 ?_
  refine r_iadd iL_law_1967 ?_
  refine al_61 (n := (6 * n + 1)) (by omega) (by omega) (by omega) iL_law_1968 ?_
  rw [s1.1 0 (6 * n + 1)]
  refine ld_a0 iL_law_1969 ?_
  refine ld_i4 iL_law_1970 ?_
  refine r_iconst iL_law_1972 ?_
  refine r_iadd iL_law_1973 ?_
  refine al_61 (n := (6 * n + 2)) (by omega) (by omega) (by omega) iL_law_1974 ?_
  rw [s1.1 0 (6 * n + 2)]
  refine xX10_spell kML_211 iL_law_1975 (by decide) (Nat.le_of_ble_eq_true rfl) rfl rfl ?_
  refine Ck.mapI ?_ hm
  rintro z2 N2 g2 ⟨e2, hf⟩
  subst e2
  refine r_icmpeqS iL_law_1978 ?_
  exact next _ _ hf
theorem law_43 {n : Nat} (hI : Inv N g) (hr : ∀ j, rI (N 61 0 j)) (hn : 6 * n + 6 ≤ (N 61 1 0).toNat) (hl : (N 61 1 0).toNat ≤ 3072) (next : ∀ N' g', Fin2 N N' g' → AW K YL_law hL_law (qI Pq) 2059 [some (vr 61 0), some (vr 0 0), some (vr 40 0), some (vr 60 0), some (vi (6 * (n : Int))), none, none] [] N' g') : AW K YL_law hL_law (qI Pq) 1983 [some (vr 61 0), some (vr 0 0), some (vr 40 0), some (vr 60 0), some (vi (6 * (n : Int))), none, none] [] N g := by
  obtain ⟨d, wg, p, T, L, h⟩ := hI
  refine ld_a1 iL_law_1983 ?_
  refine ld_a0 iL_law_1984 ?_
  refine ld_i4 iL_law_1985 ?_
  refine r_iconst iL_law_1987 ?_
  refine r_iadd iL_law_1988 ?_
  refine al_61 (n := (6 * n + 1)) (by omega) (by omega) (by omega) iL_law_1989 ?_
  refine xX9_status kML_212 iL_law_1990 (by decide) (Nat.le_of_ble_eq_true rfl) rfl rfl ?_
  refine Ck.mapI ?_ (q_status h (hr _))
  rintro z N1 g1 ⟨s1, hm⟩
  have s61 := s1.1 1 0
  refine ld_a2 iL_law_1993 ?_
  refine ld_a0 iL_law_1994 ?_
  refine ld_i4 iL_law_1995 ?_
  refine r_iconst iL_law_1997 ?_
  refine r_iadd iL_law_1998 ?_
  refine al_61 (n := (6 * n + 1)) (by omega) (by omega) (by omega) iL_law_1999 ?_
  rw [s1.1 0 (6 * n + 1)]
  refine xX10_status kML_215 iL_law_2000 (by decide) (Nat.le_of_ble_eq_true rfl) rfl rfl ?_
  refine Ck.mapI ?_ hm
  rintro z2 N2 g2 ⟨e2, hf⟩
  subst e2
  refine r_icmpeqS iL_law_2003 ?_
  exact next _ _ hf
theorem law_44 {n : Nat} (hI : Inv N g) (hr : ∀ j, rI (N 61 0 j)) (hn : 6 * n + 6 ≤ (N 61 1 0).toNat) (hl : (N 61 1 0).toNat ≤ 3072) (next : ∀ N' g', Fin2 N N' g' → AW K YL_law hL_law (qI Pq) 2059 [some (vr 61 0), some (vr 0 0), some (vr 40 0), some (vr 60 0), some (vi (6 * (n : Int))), none, none] [] N' g') : AW K YL_law hL_law (qI Pq) 2008 [some (vr 61 0), some (vr 0 0), some (vr 40 0), some (vr 60 0), some (vi (6 * (n : Int))), none, none] [] N g := by
  obtain ⟨d, wg, p, T, L, h⟩ := hI
  refine ld_a1 iL_law_2008 ?_
  refine ld_a0 iL_law_2009 ?_
  refine ld_i4 iL_law_2010 ?_
  refine r_iconst iL_law_2012 ?_
  refine r_iadd iL_law_2013 ?_
  refine al_61 (n := (6 * n + 1)) (by omega) (by omega) (by omega) iL_law_2014 ?_
  refine xX9_most kML_216 iL_law_2015 (by decide) (Nat.le_of_ble_eq_true rfl) rfl rfl ?_
  refine Ck.mapL ?_ (q_most h (hr _))
  rintro z N1 g1 ⟨s1, hm⟩
  have s61 := s1.1 1 0
  refine ld_a2 iL_law_2018 ?_
  refine ld_a0 iL_law_2019 ?_
  refine ld_i4 iL_law_2020 ?_
  refine r_iconst iL_law_2022 ?_
  refine r_iadd iL_law_2023 ?_
  refine al_61 (n := (6 * n + 1)) (by omega) (by omega) (by omega) iL_law_2024 ?_
  rw [s1.1 0 (6 * n + 1)]
  refine xX10_most kML_219 iL_law_2025 (by decide) (Nat.le_of_ble_eq_true rfl) rfl rfl ?_
  refine Ck.mapL ?_ hm
  rintro z2 N2 g2 ⟨e2, hf⟩
  subst e2
  refine r_lcmpS iL_law_2028 ?_
  refine r_ifeq iL_law_2029 (by omega) (fun h2029 => ?_) (fun h2029 => ?_)
  · exact next _ _ hf
  · exact absurd rfl h2029
theorem law_45 {n : Nat} (hI : Inv N g) (hr : ∀ j, rI (N 61 0 j)) (hn : 6 * n + 6 ≤ (N 61 1 0).toNat) (hl : (N 61 1 0).toNat ≤ 3072) (next : ∀ N' g', Fin2 N N' g' → AW K YL_law hL_law (qI Pq) 2059 [some (vr 61 0), some (vr 0 0), some (vr 40 0), some (vr 60 0), some (vi (6 * (n : Int))), none, none] [] N' g') : AW K YL_law hL_law (qI Pq) 2034 [some (vr 61 0), some (vr 0 0), some (vr 40 0), some (vr 60 0), some (vi (6 * (n : Int))), none, none] [] N g := by
  obtain ⟨d, wg, p, T, L, h⟩ := hI
  refine ld_a1 iL_law_2034 ?_
  refine ld_a0 iL_law_2035 ?_
  refine ld_i4 iL_law_2036 ?_
  refine r_iconst iL_law_2038 ?_
  refine r_iadd iL_law_2039 ?_
  refine al_61 (n := (6 * n + 1)) (by omega) (by omega) (by omega) iL_law_2040 ?_
  refine xX9_count kML_220 iL_law_2041 (by decide) (Nat.le_of_ble_eq_true rfl) rfl rfl ?_
  refine Ck.mapI ?_ (q_count h (hr _))
  rintro z N1 g1 ⟨s1, hm⟩
  have s61 := s1.1 1 0
  refine ld_a2 iL_law_2044 ?_
  refine ld_a0 iL_law_2045 ?_
  refine ld_i4 iL_law_2046 ?_
  refine r_iconst iL_law_2048 ?_
  refine r_iadd iL_law_2049 ?_
  refine al_61 (n := (6 * n + 1)) (by omega) (by omega) (by omega) iL_law_2050 ?_
  rw [s1.1 0 (6 * n + 1)]
  refine xX10_count kML_223 iL_law_2051 (by decide) (Nat.le_of_ble_eq_true rfl) rfl rfl ?_
  refine Ck.mapI ?_ hm
  rintro z2 N2 g2 ⟨e2, hf⟩
  subst e2
  refine r_icmpeqS iL_law_2054 ?_
  exact next _ _ hf
end Law20c
