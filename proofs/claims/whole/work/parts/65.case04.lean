set_option maxHeartbeats 4000000 in
set_option maxRecDepth 100000 in
theorem lw_case_16 {F : pb_F} {d k n cells slots sz b N j X : Nat} {sk : pb_Sk} {rf : pb_Rf} {sg : pb_Sg} {xs : Nat → Int32} {v5 v6 : Option Value} (h : pb_Fx F mL_law d k n) (hfl : (pb_l F).stackTraces = false) (hX : va_X b N xs (pb_s F) (pb_s F).heap) (hbl : b < (pb_s F).heap.size) (hbA : ¬ pb_own (pb_g F) b) (hN : N ≤ 3072) (hj : 6 * j + 6 ≤ N) (hd : 30 ≤ d) (hc : cells + 18 ≤ k) (hs : slots + 400 ≤ n) (hI : pq_INV X sz sk rf sg) (kk : ∀ sz' sk' rf' sg' v5' v6', pq_INV X sz' sk' rf' sg' → pv F (cells + 18) (slots + 400) sz' sk' rf' sg' 2247 [some (.ref b), some (.ref X), some (.ref (X + 45)), some (.ref (X + 70)), some (.int (nI (6 * j))), v5', v6'] []) : pv F cells slots sz sk rf sg 1259 [some (.ref b), some (.ref X), some (.ref (X + 45)), some (.ref (X + 70)), some (.int (nI (6 * j))), v5, v6] [] := by
  by_cases hz : xs (6 * j + 2) = 0
  · obtain ⟨k0, kc, nc, post, hk3, hkc, hnc, hM, hP⟩ := pq_st_reasonTask hfl hI (xs (6 * j + 1)) false
    refine v_aload_n h (i := 1) dL_law_1259 (q := 1260) rfl rfl rfl ?_
    refine v_aload_n h (i := 0) dL_law_1260 (q := 1261) rfl rfl rfl ?_
    refine v_iload h dL_law_1261 (q := 1263) rfl rfl ?_
    refine v_iconst h (v := nI 1) dL_law_1263 (q := 1264) rfl (by decide +kernel) ?_
    refine v_iadd h dL_law_1264 (q := 1265) rfl ?_
    refine v_sld h hX hbl hbA (t := 6 * j + 1) (nI_add _ _) (by omega) (by omega) dL_law_1265 (q := 1266) rfl ?_
    refine v_aload_n h (i := 0) dL_law_1266 (q := 1267) rfl rfl rfl ?_
    refine v_iload h dL_law_1267 (q := 1269) rfl rfl ?_
    refine v_iconst h (v := nI 2) dL_law_1269 (q := 1270) rfl (by decide +kernel) ?_
    refine v_iadd h dL_law_1270 (q := 1271) rfl ?_
    refine v_sld h hX hbl hbA (t := 6 * j + 2) (nI_add _ _) (by omega) (by omega) dL_law_1271 (q := 1272) rfl ?_
    refine v_if_eq h dL_law_1272 (q := 1275) rfl (tgt := 1279) (by decide) (fun _ => ?_) (fun c9 => absurd hz c9)
    refine v_iconst h (v := nI 0) dL_law_1279 (q := 1280) rfl (by decide +kernel) ?_
    refine v_aload_n h (i := 3) dL_law_1280 (q := 1281) rfl rfl rfl ?_
    refine v_callSH h hM kL_reasonTask (fun h9 => nomatch h9) tw663 rfl rfl (by simp [Value.category]) (by omega) (by omega) (by omega) rfl dL_law_1281 (q := 1284) rfl ?_ (fun E sz9 sk9 rf9 sg9 hx9 => nomatch (hP _ _ _ _ _ hx9).1)
    intro v1 sz1 sk1 rf1 sg1 hp1
    obtain ⟨e1, d8, w8, sg2, hd8, hPw, hM8, ht, ho, hI2⟩ := hP _ _ _ _ _ hp1
    cases e1
    obtain ⟨nn, B, par, hsk, -⟩ := id hI2
    have hm1 := hsk.2.2.1
    have hO1 := hsk.2.2.2.1
    refine v_istore h dL_law_1284 (q := 1286) rfl (Nat.le_of_ble_eq_true rfl) rfl ?_
    refine v_aload_n h (i := 2) dL_law_1286 (q := 1287) rfl rfl rfl ?_
    refine v_aload_n h (i := 0) dL_law_1287 (q := 1288) rfl rfl rfl ?_
    refine v_iload h dL_law_1288 (q := 1290) rfl rfl ?_
    refine v_iconst h (v := nI 1) dL_law_1290 (q := 1291) rfl (by decide +kernel) ?_
    refine v_iadd h dL_law_1291 (q := 1292) rfl ?_
    refine v_sld h hX hbl hbA (t := 6 * j + 1) (nI_add _ _) (by omega) (by omega) dL_law_1292 (q := 1293) rfl ?_
    refine v_aload_n h (i := 0) dL_law_1293 (q := 1294) rfl rfl rfl ?_
    refine v_iload h dL_law_1294 (q := 1296) rfl rfl ?_
    refine v_iconst h (v := nI 2) dL_law_1296 (q := 1297) rfl (by decide +kernel) ?_
    refine v_iadd h dL_law_1297 (q := 1298) rfl ?_
    refine v_sld h hX hbl hbA (t := 6 * j + 2) (nI_add _ _) (by omega) (by omega) dL_law_1298 (q := 1299) rfl ?_
    refine v_if_eq h dL_law_1299 (q := 1302) rfl (tgt := 1306) (by decide) (fun _ => ?_) (fun c9 => absurd hz c9)
    refine v_iconst h (v := nI 0) dL_law_1306 (q := 1307) rfl (by decide +kernel) ?_
    refine v_callV1 h hM8 kX8_reasonTask tw1110 tw1112 hm1.1 (by decide) rfl rfl rfl (by simp [Value.category]) (by omega) (by omega) (by omega) rfl dL_law_1307 (q := 1310) rfl ?_
    refine v_istore h dL_law_1310 (q := 1312) rfl (Nat.le_of_ble_eq_true rfl) rfl ?_
    refine v_aload_n h (i := 2) dL_law_1312 (q := 1313) rfl rfl rfl ?_
    refine v_callV1 h (c_X8_thrown hfl hm1) kX8_thrown tw911 tw913 hm1.1 (by decide) rfl rfl rfl (by simp [Value.category]) (by omega) (by omega) (by omega) rfl dL_law_1313 (q := 1316) rfl ?_
    refine v_iload h dL_law_1316 (q := 1318) rfl rfl ?_
    refine v_icmp_eq h dL_law_1318 (q := 1321) rfl (tgt := 1323) (by decide) (fun _ => ?_) (fun c9 => absurd ht c9)
    refine v_iload h dL_law_1323 (q := 1325) rfl rfl ?_
    refine v_if_ne h dL_law_1325 (q := 1328) rfl (tgt := 1340) (by decide) (fun _ => ?_) (fun c9 => ?_)
    · refine v_goto h dL_law_1340 (tgt := 2247) (by decide) ?_
      refine v_widen (c2 := cells + 18) (s2 := slots + 400) (by omega) (by omega) ?_
      exact kk _ _ _ _ _ _ hI2
    · have hk0 : k0 = 0 := (nI_eq (by omega) (by omega)).mp c9
      refine v_aload_n h (i := 3) dL_law_1328 (q := 1329) rfl rfl rfl ?_
      refine v_iconst h (v := nI 0) dL_law_1329 (q := 1330) rfl (by decide +kernel) ?_
      refine v_lald h hO1 rfl (by decide) (by decide) dL_law_1330 (q := 1331) rfl ?_
      rw [ho hk0]
      refine v_iload h dL_law_1331 (q := 1333) rfl rfl ?_
      refine v_i2l h dL_law_1333 (q := 1334) rfl ?_
      refine v_lcmp h dL_law_1334 (q := 1335) rfl ?_
      refine v_if_eq h dL_law_1335 (q := 1338) rfl (tgt := 1340) (by decide) (fun _ => ?_) (fun c8 => absurd ((lg_cmp_eq _ _).mpr rfl) c8)
      refine v_goto h dL_law_1340 (tgt := 2247) (by decide) ?_
      refine v_widen (c2 := cells + 18) (s2 := slots + 400) (by omega) (by omega) ?_
      exact kk _ _ _ _ _ _ hI2
  · obtain ⟨k0, kc, nc, post, hk3, hkc, hnc, hM, hP⟩ := pq_st_reasonTask hfl hI (xs (6 * j + 1)) true
    refine v_aload_n h (i := 1) dL_law_1259 (q := 1260) rfl rfl rfl ?_
    refine v_aload_n h (i := 0) dL_law_1260 (q := 1261) rfl rfl rfl ?_
    refine v_iload h dL_law_1261 (q := 1263) rfl rfl ?_
    refine v_iconst h (v := nI 1) dL_law_1263 (q := 1264) rfl (by decide +kernel) ?_
    refine v_iadd h dL_law_1264 (q := 1265) rfl ?_
    refine v_sld h hX hbl hbA (t := 6 * j + 1) (nI_add _ _) (by omega) (by omega) dL_law_1265 (q := 1266) rfl ?_
    refine v_aload_n h (i := 0) dL_law_1266 (q := 1267) rfl rfl rfl ?_
    refine v_iload h dL_law_1267 (q := 1269) rfl rfl ?_
    refine v_iconst h (v := nI 2) dL_law_1269 (q := 1270) rfl (by decide +kernel) ?_
    refine v_iadd h dL_law_1270 (q := 1271) rfl ?_
    refine v_sld h hX hbl hbA (t := 6 * j + 2) (nI_add _ _) (by omega) (by omega) dL_law_1271 (q := 1272) rfl ?_
    refine v_if_eq h dL_law_1272 (q := 1275) rfl (tgt := 1279) (by decide) (fun c9 => absurd c9 hz) (fun _ => ?_)
    refine v_iconst h (v := nI 1) dL_law_1275 (q := 1276) rfl (by decide +kernel) ?_
    refine v_goto h dL_law_1276 (tgt := 1280) (by decide) ?_
    refine v_aload_n h (i := 3) dL_law_1280 (q := 1281) rfl rfl rfl ?_
    refine v_callSH h hM kL_reasonTask (fun h9 => nomatch h9) tw663 rfl rfl (by simp [Value.category]) (by omega) (by omega) (by omega) rfl dL_law_1281 (q := 1284) rfl ?_ (fun E sz9 sk9 rf9 sg9 hx9 => nomatch (hP _ _ _ _ _ hx9).1)
    intro v1 sz1 sk1 rf1 sg1 hp1
    obtain ⟨e1, d8, w8, sg2, hd8, hPw, hM8, ht, ho, hI2⟩ := hP _ _ _ _ _ hp1
    cases e1
    obtain ⟨nn, B, par, hsk, -⟩ := id hI2
    have hm1 := hsk.2.2.1
    have hO1 := hsk.2.2.2.1
    refine v_istore h dL_law_1284 (q := 1286) rfl (Nat.le_of_ble_eq_true rfl) rfl ?_
    refine v_aload_n h (i := 2) dL_law_1286 (q := 1287) rfl rfl rfl ?_
    refine v_aload_n h (i := 0) dL_law_1287 (q := 1288) rfl rfl rfl ?_
    refine v_iload h dL_law_1288 (q := 1290) rfl rfl ?_
    refine v_iconst h (v := nI 1) dL_law_1290 (q := 1291) rfl (by decide +kernel) ?_
    refine v_iadd h dL_law_1291 (q := 1292) rfl ?_
    refine v_sld h hX hbl hbA (t := 6 * j + 1) (nI_add _ _) (by omega) (by omega) dL_law_1292 (q := 1293) rfl ?_
    refine v_aload_n h (i := 0) dL_law_1293 (q := 1294) rfl rfl rfl ?_
    refine v_iload h dL_law_1294 (q := 1296) rfl rfl ?_
    refine v_iconst h (v := nI 2) dL_law_1296 (q := 1297) rfl (by decide +kernel) ?_
    refine v_iadd h dL_law_1297 (q := 1298) rfl ?_
    refine v_sld h hX hbl hbA (t := 6 * j + 2) (nI_add _ _) (by omega) (by omega) dL_law_1298 (q := 1299) rfl ?_
    refine v_if_eq h dL_law_1299 (q := 1302) rfl (tgt := 1306) (by decide) (fun c9 => absurd c9 hz) (fun _ => ?_)
    refine v_iconst h (v := nI 1) dL_law_1302 (q := 1303) rfl (by decide +kernel) ?_
    refine v_goto h dL_law_1303 (tgt := 1307) (by decide) ?_
    refine v_callV1 h hM8 kX8_reasonTask tw1110 tw1112 hm1.1 (by decide) rfl rfl rfl (by simp [Value.category]) (by omega) (by omega) (by omega) rfl dL_law_1307 (q := 1310) rfl ?_
    refine v_istore h dL_law_1310 (q := 1312) rfl (Nat.le_of_ble_eq_true rfl) rfl ?_
    refine v_aload_n h (i := 2) dL_law_1312 (q := 1313) rfl rfl rfl ?_
    refine v_callV1 h (c_X8_thrown hfl hm1) kX8_thrown tw911 tw913 hm1.1 (by decide) rfl rfl rfl (by simp [Value.category]) (by omega) (by omega) (by omega) rfl dL_law_1313 (q := 1316) rfl ?_
    refine v_iload h dL_law_1316 (q := 1318) rfl rfl ?_
    refine v_icmp_eq h dL_law_1318 (q := 1321) rfl (tgt := 1323) (by decide) (fun _ => ?_) (fun c9 => absurd ht c9)
    refine v_iload h dL_law_1323 (q := 1325) rfl rfl ?_
    refine v_if_ne h dL_law_1325 (q := 1328) rfl (tgt := 1340) (by decide) (fun _ => ?_) (fun c9 => ?_)
    · refine v_goto h dL_law_1340 (tgt := 2247) (by decide) ?_
      refine v_widen (c2 := cells + 18) (s2 := slots + 400) (by omega) (by omega) ?_
      exact kk _ _ _ _ _ _ hI2
    · have hk0 : k0 = 0 := (nI_eq (by omega) (by omega)).mp c9
      refine v_aload_n h (i := 3) dL_law_1328 (q := 1329) rfl rfl rfl ?_
      refine v_iconst h (v := nI 0) dL_law_1329 (q := 1330) rfl (by decide +kernel) ?_
      refine v_lald h hO1 rfl (by decide) (by decide) dL_law_1330 (q := 1331) rfl ?_
      rw [ho hk0]
      refine v_iload h dL_law_1331 (q := 1333) rfl rfl ?_
      refine v_i2l h dL_law_1333 (q := 1334) rfl ?_
      refine v_lcmp h dL_law_1334 (q := 1335) rfl ?_
      refine v_if_eq h dL_law_1335 (q := 1338) rfl (tgt := 1340) (by decide) (fun _ => ?_) (fun c8 => absurd ((lg_cmp_eq _ _).mpr rfl) c8)
      refine v_goto h dL_law_1340 (tgt := 2247) (by decide) ?_
      refine v_widen (c2 := cells + 18) (s2 := slots + 400) (by omega) (by omega) ?_
      exact kk _ _ _ _ _ _ hI2
set_option maxHeartbeats 4000000 in
set_option maxRecDepth 100000 in
theorem lw_case_17 {F : pb_F} {d k n cells slots sz b N j X : Nat} {sk : pb_Sk} {rf : pb_Rf} {sg : pb_Sg} {xs : Nat → Int32} {v5 v6 : Option Value} (h : pb_Fx F mL_law d k n) (hfl : (pb_l F).stackTraces = false) (hX : va_X b N xs (pb_s F) (pb_s F).heap) (hbl : b < (pb_s F).heap.size) (hbA : ¬ pb_own (pb_g F) b) (hN : N ≤ 3072) (hj : 6 * j + 6 ≤ N) (hd : 30 ≤ d) (hc : cells + 18 ≤ k) (hs : slots + 400 ≤ n) (hI : pq_INV X sz sk rf sg) (kk : ∀ sz' sk' rf' sg' v5' v6', pq_INV X sz' sk' rf' sg' → pv F (cells + 18) (slots + 400) sz' sk' rf' sg' 2247 [some (.ref b), some (.ref X), some (.ref (X + 45)), some (.ref (X + 70)), some (.int (nI (6 * j))), v5', v6'] []) : pv F cells slots sz sk rf sg 1343 [some (.ref b), some (.ref X), some (.ref (X + 45)), some (.ref (X + 70)), some (.int (nI (6 * j))), v5, v6] [] := by
  obtain ⟨k0, kc, nc, post, hk3, hkc, hnc, hM, hP⟩ := pq_st_merge hfl hI (xs (6 * j + 1))
  refine v_aload_n h (i := 1) dL_law_1343 (q := 1344) rfl rfl rfl ?_
  refine v_aload_n h (i := 0) dL_law_1344 (q := 1345) rfl rfl rfl ?_
  refine v_iload h dL_law_1345 (q := 1347) rfl rfl ?_
  refine v_iconst h (v := nI 1) dL_law_1347 (q := 1348) rfl (by decide +kernel) ?_
  refine v_iadd h dL_law_1348 (q := 1349) rfl ?_
  refine v_sld h hX hbl hbA (t := 6 * j + 1) (nI_add _ _) (by omega) (by omega) dL_law_1349 (q := 1350) rfl ?_
  refine v_aload_n h (i := 3) dL_law_1350 (q := 1351) rfl rfl rfl ?_
  refine v_callSH h hM kL_merge (fun h9 => nomatch h9) tw673 rfl rfl (by simp [Value.category]) (by omega) (by omega) (by omega) rfl dL_law_1351 (q := 1354) rfl ?_ (fun E sz9 sk9 rf9 sg9 hx9 => nomatch (hP _ _ _ _ _ hx9).1)
  intro v1 sz1 sk1 rf1 sg1 hp1
  obtain ⟨e1, d8, w8, sg2, hd8, hPw, hM8, ht, ho, hI2⟩ := hP _ _ _ _ _ hp1
  cases e1
  obtain ⟨nn, B, par, hsk, -⟩ := id hI2
  have hm1 := hsk.2.2.1
  have hO1 := hsk.2.2.2.1
  refine v_istore h dL_law_1354 (q := 1356) rfl (Nat.le_of_ble_eq_true rfl) rfl ?_
  refine v_aload_n h (i := 2) dL_law_1356 (q := 1357) rfl rfl rfl ?_
  refine v_aload_n h (i := 0) dL_law_1357 (q := 1358) rfl rfl rfl ?_
  refine v_iload h dL_law_1358 (q := 1360) rfl rfl ?_
  refine v_iconst h (v := nI 1) dL_law_1360 (q := 1361) rfl (by decide +kernel) ?_
  refine v_iadd h dL_law_1361 (q := 1362) rfl ?_
  refine v_sld h hX hbl hbA (t := 6 * j + 1) (nI_add _ _) (by omega) (by omega) dL_law_1362 (q := 1363) rfl ?_
  refine v_callV1 h hM8 kX8_merge tw1117 tw1119 hm1.1 (by decide) rfl rfl rfl (by simp [Value.category]) (by omega) (by omega) (by omega) rfl dL_law_1363 (q := 1366) rfl ?_
  refine v_istore h dL_law_1366 (q := 1368) rfl (Nat.le_of_ble_eq_true rfl) rfl ?_
  refine v_aload_n h (i := 2) dL_law_1368 (q := 1369) rfl rfl rfl ?_
  refine v_callV1 h (c_X8_thrown hfl hm1) kX8_thrown tw911 tw913 hm1.1 (by decide) rfl rfl rfl (by simp [Value.category]) (by omega) (by omega) (by omega) rfl dL_law_1369 (q := 1372) rfl ?_
  refine v_iload h dL_law_1372 (q := 1374) rfl rfl ?_
  refine v_icmp_eq h dL_law_1374 (q := 1377) rfl (tgt := 1379) (by decide) (fun _ => ?_) (fun c9 => absurd ht c9)
  refine v_iload h dL_law_1379 (q := 1381) rfl rfl ?_
  refine v_if_ne h dL_law_1381 (q := 1384) rfl (tgt := 1396) (by decide) (fun _ => ?_) (fun c9 => ?_)
  · refine v_goto h dL_law_1396 (tgt := 2247) (by decide) ?_
    refine v_widen (c2 := cells + 18) (s2 := slots + 400) (by omega) (by omega) ?_
    exact kk _ _ _ _ _ _ hI2
  · have hk0 : k0 = 0 := (nI_eq (by omega) (by omega)).mp c9
    refine v_aload_n h (i := 3) dL_law_1384 (q := 1385) rfl rfl rfl ?_
    refine v_iconst h (v := nI 0) dL_law_1385 (q := 1386) rfl (by decide +kernel) ?_
    refine v_lald h hO1 rfl (by decide) (by decide) dL_law_1386 (q := 1387) rfl ?_
    rw [ho hk0]
    refine v_iload h dL_law_1387 (q := 1389) rfl rfl ?_
    refine v_i2l h dL_law_1389 (q := 1390) rfl ?_
    refine v_lcmp h dL_law_1390 (q := 1391) rfl ?_
    refine v_if_eq h dL_law_1391 (q := 1394) rfl (tgt := 1396) (by decide) (fun _ => ?_) (fun c8 => absurd ((lg_cmp_eq _ _).mpr rfl) c8)
    refine v_goto h dL_law_1396 (tgt := 2247) (by decide) ?_
    refine v_widen (c2 := cells + 18) (s2 := slots + 400) (by omega) (by omega) ?_
    exact kk _ _ _ _ _ _ hI2
set_option maxHeartbeats 4000000 in
set_option maxRecDepth 100000 in
theorem lw_case_18 {F : pb_F} {d k n cells slots sz b N j X : Nat} {sk : pb_Sk} {rf : pb_Rf} {sg : pb_Sg} {xs : Nat → Int32} {v5 v6 : Option Value} (h : pb_Fx F mL_law d k n) (hfl : (pb_l F).stackTraces = false) (hX : va_X b N xs (pb_s F) (pb_s F).heap) (hbl : b < (pb_s F).heap.size) (hbA : ¬ pb_own (pb_g F) b) (hN : N ≤ 3072) (hj : 6 * j + 6 ≤ N) (hd : 30 ≤ d) (hc : cells + 18 ≤ k) (hs : slots + 400 ≤ n) (hI : pq_INV X sz sk rf sg) (kk : ∀ sz' sk' rf' sg' v5' v6', pq_INV X sz' sk' rf' sg' → pv F (cells + 18) (slots + 400) sz' sk' rf' sg' 2247 [some (.ref b), some (.ref X), some (.ref (X + 45)), some (.ref (X + 70)), some (.int (nI (6 * j))), v5', v6'] []) : pv F cells slots sz sk rf sg 1399 [some (.ref b), some (.ref X), some (.ref (X + 45)), some (.ref (X + 70)), some (.int (nI (6 * j))), v5, v6] [] := by
  obtain ⟨k0, kc, nc, post, hk3, hkc, hnc, hM, hP⟩ := pq_st_update hfl hI (xs (6 * j + 1))
  refine v_aload_n h (i := 1) dL_law_1399 (q := 1400) rfl rfl rfl ?_
  refine v_aload_n h (i := 0) dL_law_1400 (q := 1401) rfl rfl rfl ?_
  refine v_iload h dL_law_1401 (q := 1403) rfl rfl ?_
  refine v_iconst h (v := nI 1) dL_law_1403 (q := 1404) rfl (by decide +kernel) ?_
  refine v_iadd h dL_law_1404 (q := 1405) rfl ?_
  refine v_sld h hX hbl hbA (t := 6 * j + 1) (nI_add _ _) (by omega) (by omega) dL_law_1405 (q := 1406) rfl ?_
  refine v_aload_n h (i := 3) dL_law_1406 (q := 1407) rfl rfl rfl ?_
  refine v_callSH h hM kL_update (fun h9 => nomatch h9) tw693 rfl rfl (by simp [Value.category]) (by omega) (by omega) (by omega) rfl dL_law_1407 (q := 1410) rfl ?_ (fun E sz9 sk9 rf9 sg9 hx9 => nomatch (hP _ _ _ _ _ hx9).1)
  intro v1 sz1 sk1 rf1 sg1 hp1
  obtain ⟨e1, d8, w8, sg2, hd8, hPw, hM8, ht, ho, hI2⟩ := hP _ _ _ _ _ hp1
  cases e1
  obtain ⟨nn, B, par, hsk, -⟩ := id hI2
  have hm1 := hsk.2.2.1
  have hO1 := hsk.2.2.2.1
  refine v_istore h dL_law_1410 (q := 1412) rfl (Nat.le_of_ble_eq_true rfl) rfl ?_
  refine v_aload_n h (i := 2) dL_law_1412 (q := 1413) rfl rfl rfl ?_
  refine v_aload_n h (i := 0) dL_law_1413 (q := 1414) rfl rfl rfl ?_
  refine v_iload h dL_law_1414 (q := 1416) rfl rfl ?_
  refine v_iconst h (v := nI 1) dL_law_1416 (q := 1417) rfl (by decide +kernel) ?_
  refine v_iadd h dL_law_1417 (q := 1418) rfl ?_
  refine v_sld h hX hbl hbA (t := 6 * j + 1) (nI_add _ _) (by omega) (by omega) dL_law_1418 (q := 1419) rfl ?_
  refine v_callV1 h hM8 kX8_update tw1125 tw1127 hm1.1 (by decide) rfl rfl rfl (by simp [Value.category]) (by omega) (by omega) (by omega) rfl dL_law_1419 (q := 1422) rfl ?_
  refine v_istore h dL_law_1422 (q := 1424) rfl (Nat.le_of_ble_eq_true rfl) rfl ?_
  refine v_aload_n h (i := 2) dL_law_1424 (q := 1425) rfl rfl rfl ?_
  refine v_callV1 h (c_X8_thrown hfl hm1) kX8_thrown tw911 tw913 hm1.1 (by decide) rfl rfl rfl (by simp [Value.category]) (by omega) (by omega) (by omega) rfl dL_law_1425 (q := 1428) rfl ?_
  refine v_iload h dL_law_1428 (q := 1430) rfl rfl ?_
  refine v_icmp_eq h dL_law_1430 (q := 1433) rfl (tgt := 1435) (by decide) (fun _ => ?_) (fun c9 => absurd ht c9)
  refine v_iload h dL_law_1435 (q := 1437) rfl rfl ?_
  refine v_if_ne h dL_law_1437 (q := 1440) rfl (tgt := 1452) (by decide) (fun _ => ?_) (fun c9 => ?_)
  · refine v_goto h dL_law_1452 (tgt := 2247) (by decide) ?_
    refine v_widen (c2 := cells + 18) (s2 := slots + 400) (by omega) (by omega) ?_
    exact kk _ _ _ _ _ _ hI2
  · have hk0 : k0 = 0 := (nI_eq (by omega) (by omega)).mp c9
    refine v_aload_n h (i := 3) dL_law_1440 (q := 1441) rfl rfl rfl ?_
    refine v_iconst h (v := nI 0) dL_law_1441 (q := 1442) rfl (by decide +kernel) ?_
    refine v_lald h hO1 rfl (by decide) (by decide) dL_law_1442 (q := 1443) rfl ?_
    rw [ho hk0]
    refine v_iload h dL_law_1443 (q := 1445) rfl rfl ?_
    refine v_i2l h dL_law_1445 (q := 1446) rfl ?_
    refine v_lcmp h dL_law_1446 (q := 1447) rfl ?_
    refine v_if_eq h dL_law_1447 (q := 1450) rfl (tgt := 1452) (by decide) (fun _ => ?_) (fun c8 => absurd ((lg_cmp_eq _ _).mpr rfl) c8)
    refine v_goto h dL_law_1452 (tgt := 2247) (by decide) ?_
    refine v_widen (c2 := cells + 18) (s2 := slots + 400) (by omega) (by omega) ?_
    exact kk _ _ _ _ _ _ hI2
set_option maxHeartbeats 4000000 in
set_option maxRecDepth 100000 in
theorem lw_case_19 {F : pb_F} {d k n cells slots sz b N j X : Nat} {sk : pb_Sk} {rf : pb_Rf} {sg : pb_Sg} {xs : Nat → Int32} {v5 v6 : Option Value} (h : pb_Fx F mL_law d k n) (hfl : (pb_l F).stackTraces = false) (hX : va_X b N xs (pb_s F) (pb_s F).heap) (hbl : b < (pb_s F).heap.size) (hbA : ¬ pb_own (pb_g F) b) (hN : N ≤ 3072) (hj : 6 * j + 6 ≤ N) (hd : 30 ≤ d) (hc : cells + 18 ≤ k) (hs : slots + 400 ≤ n) (hI : pq_INV X sz sk rf sg) (kk : ∀ sz' sk' rf' sg' v5' v6', pq_INV X sz' sk' rf' sg' → pv F (cells + 18) (slots + 400) sz' sk' rf' sg' 2247 [some (.ref b), some (.ref X), some (.ref (X + 45)), some (.ref (X + 70)), some (.int (nI (6 * j))), v5', v6'] []) : pv F cells slots sz sk rf sg 1455 [some (.ref b), some (.ref X), some (.ref (X + 45)), some (.ref (X + 70)), some (.int (nI (6 * j))), v5, v6] [] := by
  obtain ⟨k0, kc, nc, post, hk3, hkc, hnc, hM, hP⟩ := pq_st_give hfl hI (xs (6 * j + 1)) (xs (6 * j + 2))
  refine v_aload_n h (i := 1) dL_law_1455 (q := 1456) rfl rfl rfl ?_
  refine v_aload_n h (i := 0) dL_law_1456 (q := 1457) rfl rfl rfl ?_
  refine v_iload h dL_law_1457 (q := 1459) rfl rfl ?_
  refine v_iconst h (v := nI 1) dL_law_1459 (q := 1460) rfl (by decide +kernel) ?_
  refine v_iadd h dL_law_1460 (q := 1461) rfl ?_
  refine v_sld h hX hbl hbA (t := 6 * j + 1) (nI_add _ _) (by omega) (by omega) dL_law_1461 (q := 1462) rfl ?_
  refine v_aload_n h (i := 0) dL_law_1462 (q := 1463) rfl rfl rfl ?_
  refine v_iload h dL_law_1463 (q := 1465) rfl rfl ?_
  refine v_iconst h (v := nI 2) dL_law_1465 (q := 1466) rfl (by decide +kernel) ?_
  refine v_iadd h dL_law_1466 (q := 1467) rfl ?_
  refine v_sld h hX hbl hbA (t := 6 * j + 2) (nI_add _ _) (by omega) (by omega) dL_law_1467 (q := 1468) rfl ?_
  refine v_aload_n h (i := 3) dL_law_1468 (q := 1469) rfl rfl rfl ?_
  refine v_callSH h hM kL_give (fun h9 => nomatch h9) tw701 rfl rfl (by simp [Value.category]) (by omega) (by omega) (by omega) rfl dL_law_1469 (q := 1472) rfl ?_ (fun E sz9 sk9 rf9 sg9 hx9 => nomatch (hP _ _ _ _ _ hx9).1)
  intro v1 sz1 sk1 rf1 sg1 hp1
  obtain ⟨e1, d8, w8, sg2, hd8, hPw, hM8, ht, ho, hI2⟩ := hP _ _ _ _ _ hp1
  cases e1
  obtain ⟨nn, B, par, hsk, -⟩ := id hI2
  have hm1 := hsk.2.2.1
  have hO1 := hsk.2.2.2.1
  refine v_istore h dL_law_1472 (q := 1474) rfl (Nat.le_of_ble_eq_true rfl) rfl ?_
  refine v_aload_n h (i := 2) dL_law_1474 (q := 1475) rfl rfl rfl ?_
  refine v_aload_n h (i := 0) dL_law_1475 (q := 1476) rfl rfl rfl ?_
  refine v_iload h dL_law_1476 (q := 1478) rfl rfl ?_
  refine v_iconst h (v := nI 1) dL_law_1478 (q := 1479) rfl (by decide +kernel) ?_
  refine v_iadd h dL_law_1479 (q := 1480) rfl ?_
  refine v_sld h hX hbl hbA (t := 6 * j + 1) (nI_add _ _) (by omega) (by omega) dL_law_1480 (q := 1481) rfl ?_
  refine v_aload_n h (i := 0) dL_law_1481 (q := 1482) rfl rfl rfl ?_
  refine v_iload h dL_law_1482 (q := 1484) rfl rfl ?_
  refine v_iconst h (v := nI 2) dL_law_1484 (q := 1485) rfl (by decide +kernel) ?_
  refine v_iadd h dL_law_1485 (q := 1486) rfl ?_
  refine v_sld h hX hbl hbA (t := 6 * j + 2) (nI_add _ _) (by omega) (by omega) dL_law_1486 (q := 1487) rfl ?_
  refine v_callV1 h hM8 kX8_give tw1129 tw1131 hm1.1 (by decide) rfl rfl rfl (by simp [Value.category]) (by omega) (by omega) (by omega) rfl dL_law_1487 (q := 1490) rfl ?_
  refine v_istore h dL_law_1490 (q := 1492) rfl (Nat.le_of_ble_eq_true rfl) rfl ?_
  refine v_aload_n h (i := 2) dL_law_1492 (q := 1493) rfl rfl rfl ?_
  refine v_callV1 h (c_X8_thrown hfl hm1) kX8_thrown tw911 tw913 hm1.1 (by decide) rfl rfl rfl (by simp [Value.category]) (by omega) (by omega) (by omega) rfl dL_law_1493 (q := 1496) rfl ?_
  refine v_iload h dL_law_1496 (q := 1498) rfl rfl ?_
  refine v_icmp_eq h dL_law_1498 (q := 1501) rfl (tgt := 1503) (by decide) (fun _ => ?_) (fun c9 => absurd ht c9)
  refine v_iload h dL_law_1503 (q := 1505) rfl rfl ?_
  refine v_if_ne h dL_law_1505 (q := 1508) rfl (tgt := 1520) (by decide) (fun _ => ?_) (fun c9 => ?_)
  · refine v_goto h dL_law_1520 (tgt := 2247) (by decide) ?_
    refine v_widen (c2 := cells + 18) (s2 := slots + 400) (by omega) (by omega) ?_
    exact kk _ _ _ _ _ _ hI2
  · have hk0 : k0 = 0 := (nI_eq (by omega) (by omega)).mp c9
    refine v_aload_n h (i := 3) dL_law_1508 (q := 1509) rfl rfl rfl ?_
    refine v_iconst h (v := nI 0) dL_law_1509 (q := 1510) rfl (by decide +kernel) ?_
    refine v_lald h hO1 rfl (by decide) (by decide) dL_law_1510 (q := 1511) rfl ?_
    rw [ho hk0]
    refine v_iload h dL_law_1511 (q := 1513) rfl rfl ?_
    refine v_i2l h dL_law_1513 (q := 1514) rfl ?_
    refine v_lcmp h dL_law_1514 (q := 1515) rfl ?_
    refine v_if_eq h dL_law_1515 (q := 1518) rfl (tgt := 1520) (by decide) (fun _ => ?_) (fun c8 => absurd ((lg_cmp_eq _ _).mpr rfl) c8)
    refine v_goto h dL_law_1520 (tgt := 2247) (by decide) ?_
    refine v_widen (c2 := cells + 18) (s2 := slots + 400) (by omega) (by omega) ?_
    exact kk _ _ _ _ _ _ hI2
