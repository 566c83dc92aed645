set_option maxHeartbeats 4000000 in
set_option maxRecDepth 100000 in
theorem lc_hiddenAgain : lx_case 1312 := by
  intro p l e s m below meth c H locs cells slots Q ls Y x N b L xs dL dD hC hN hS hJ hl hc hs kk
  obtain ⟨hx, hb, hml, hown, hts, hX, hbl, hL, hxe, hYx, hK, hE, hK2, hK3, hNc, hl9⟩ := hC
  have hT : rc_T Y (w_sh x) (w_rf x) := w_T (Nat.le_of_eq hYx)
  obtain ⟨σ, fL, fD, hW, hI, hOL, hOD⟩ := hJ
  have hN9 : N ≤ 900 := by omega
  obtain ⟨k, r, σ1, cd, v, σ2, e1, e2, hcd, hcd2, hrv, hI2⟩ := i_hiddenAgain w_X hN9 ((xs (4 * N + 1))) hI
  have hth : f_X9_thrown (w_rf x) (x + 308) σ2 = some (cd, σ2) := by rw [← hcd2]; rfl
  refine lv_aload_n hx hb dL_law_1312 rfl (lv_at hl 1 rfl) ?_
  refine lv_aload_n hx hb dL_law_1313 rfl (lv_at hl 0 rfl) ?_
  refine lv_iload hx hb dL_law_1314 (lv_at hl 5 rfl) ?_
  refine lv_iconst (v := 1) hx hb dL_law_1316 (by decide) ?_
  refine lv_iadd hx hb dL_law_1317 ?_
  refine lx_sld hx hb hX hbl hxe hL hS (j := 4 * N + 1) (by omega) (nI_add (4 * N) 1) dL_law_1318 ?_
  refine lv_aload_n hx hb dL_law_1319 rfl (lv_at hl 3 rfl) ?_
  refine lx_wL hxe hS hOD (vx_runSW (As := [.ref x, .int (xs (4 * N + 1)), .ref (x + 316)]) (rest := []) ⟨hx, hb, hml, hown, hts⟩ (k_L_hiddenAgain l hl9 hT x ((xs (4 * N + 1))) (x + 316) w_sh9 (w_sh0 (by omega)) dL fL H.size _ _ _ _ _ hcd e1) (vx_cwSW 3 hts (rc_gS tw_5_226 tw_5_227 tw_1_0 tw_5_228) rfl rfl rfl (by decide +kernel) ⟨Nat.le_of_ble_eq_true rfl, Nat.le_of_ble_eq_true rfl⟩) (lx_preL hT hW hK hE hS hOL hK2 hNc [.ref x, .int (xs (4 * N + 1)), .ref (x + 316)]) rfl rfl hl.1 rfl (lv_room (Nat.le_of_ble_eq_true rfl)) dL_law_1320 ⟨by show cells + 3 ≤ 606338; omega, by show slots + 18 ≤ 7201315; omega⟩) (fun fL H locs hp hW hOL hOD hS => ?_)
  refine lv_istore (lv' := [(6, .int cd), (0, .ref b), (1, .ref x), (2, .ref (x + 308)), (3, .ref (x + 316)), (4, .ref (x + 317)), (5, .int (nI (4 * N)))]) hx hb dL_law_1323 hl (by decide) rfl (fun ls hl => ?_)
  refine lv_aload_n hx hb dL_law_1325 rfl (lv_at hl 3 rfl) ?_
  refine lv_aload_n hx hb dL_law_1326 rfl (lv_at hl 1 rfl) ?_
  refine lv_iload hx hb dL_law_1327 (lv_at hl 6 rfl) ?_
  refine lv_iconst (v := 1) hx hb dL_law_1329 (by decide) ?_
  refine lv_iadd hx hb dL_law_1330 ?_
  refine lx_sld hx hb hX hbl hxe hL hS (j := 4 * N + 1) (by omega) (nI_add (4 * N) 1) dL_law_1331 ?_
  refine lx_mi hS hOL hOD (va_runV (As := [.int (xs (4 * N + 1))]) (rest := []) ⟨hx, hb, hml, hown, hts⟩ (k_X9_hiddenAgain l hT (x + 308) ((xs (4 * N + 1))) w_sh10 H.size _ _ _ e2) (cwV 1 hts (rc_gV tw_8_107 tw_8_108 tw_8_109 tw_1_14 tw_8_110) rfl rfl rfl (by decide +kernel) ⟨Nat.le_of_ble_eq_true rfl, Nat.le_of_ble_eq_true rfl⟩) (rc_preV hT hW hK hE hS w_sh10 (by decide) rfl (q := (RX9, TX9, 22)) rfl [.int (xs (4 * N + 1))]) rfl rfl hl.1 rfl (lv_room (Nat.le_of_ble_eq_true rfl)) dL_law_1332 ⟨by show cells + 3 + 0 ≤ 606338; omega, by show slots + 18 + 0 ≤ 7201315; omega⟩) (fun H locs hW hOL hOD hS => ?_)
  refine lv_istore (lv' := [(7, .int v), (6, .int cd), (0, .ref b), (1, .ref x), (2, .ref (x + 308)), (3, .ref (x + 316)), (4, .ref (x + 317)), (5, .int (nI (4 * N)))]) hx hb dL_law_1335 hl (by decide) rfl (fun ls hl => ?_)
  refine lv_aload_n hx hb dL_law_1337 rfl (lv_at hl 4 rfl) ?_
  refine lx_mi hS hOL hOD (va_runV (As := []) (rest := []) ⟨hx, hb, hml, hown, hts⟩ (k_X9_thrown l hT (x + 308) w_sh10 H.size _ _ _ hth) (cwV 0 hts (rc_gV tw_7_136 tw_7_137 tw_7_138 tw_1_14 tw_7_139) rfl rfl rfl (by decide +kernel) ⟨Nat.le_of_ble_eq_true rfl, Nat.le_of_ble_eq_true rfl⟩) (rc_preV hT hW hK hE hS w_sh10 (by decide) rfl (q := (RX9, TX9, 22)) rfl []) rfl rfl hl.1 rfl (lv_room (Nat.le_of_ble_eq_true rfl)) dL_law_1338 ⟨by show cells + 3 + 0 + 0 ≤ 606338; omega, by show slots + 18 + 0 + 0 ≤ 7201315; omega⟩) (fun H locs hW hOL hOD hS => ?_)
  refine lv_iload hx hb dL_law_1341 (lv_at hl 1 rfl) ?_
  refine lv_icmp_eq (tgt := 1348) hx hb dL_law_1343 (by decide) (fun _ => ?_) (fun c9 => absurd rfl c9)
  refine lv_iload hx hb dL_law_1348 (lv_at hl 1 rfl) ?_
  refine lv_if_ne (tgt := 1365) hx hb dL_law_1350 (by decide) (fun c9 => ?_) (fun c9 => ?_)
  · refine lv_goto (tgt := 2344) hx hb dL_law_1365 (by decide) ?_
    refine W.widen (k := cells + 3) (n := slots + 18) (by omega) (by omega) ?_
    exact kk _ _ _ ⟨σ2, fL, fD, hW, hI2, hOL, hOD⟩ hS (lv_sub hl [2, 3, 4, 5, 6, 7] rfl)
  · have hk0 : k = 0 := by rcases hcd with ⟨h1, h2⟩ | ⟨h1, h2⟩ | ⟨h1, h2⟩ <;> first | exact h1 | exact absurd (h2.symm.trans c9) (by decide)
    refine lv_aload_n hx hb dL_law_1353 rfl (lv_at hl 5 rfl) ?_
    refine lv_iconst (v := 0) hx hb dL_law_1354 (by decide) ?_
    refine lx_lald hx hb hK2 hOL dL_law_1355 ?_
    refine lv_iload hx hb dL_law_1356 (lv_at hl 0 rfl) ?_
    refine lv_i2l hx hb dL_law_1358 rfl ?_
    refine W.lcmp hx hb dL_law_1359 ?_
    refine lv_if_eq (tgt := 1365) hx hb dL_law_1360 (by decide) (fun _ => ?_) (fun c8 => absurd ((lg_cmp_eq _ _).mpr (by rw [hp hk0, hrv hk0])) c8)
    refine lv_goto (tgt := 2344) hx hb dL_law_1365 (by decide) ?_
    refine W.widen (k := cells + 3) (n := slots + 18) (by omega) (by omega) ?_
    exact kk _ _ _ ⟨σ2, fL, fD, hW, hI2, hOL, hOD⟩ hS (lv_sub hl [2, 3, 4, 5, 6, 7] rfl)
set_option maxHeartbeats 4000000 in
set_option maxRecDepth 100000 in
theorem lc_wouldCatch : lx_case 1368 := by
  intro p l e s m below meth c H locs cells slots Q ls Y x N b L xs dL dD hC hN hS hJ hl hc hs kk
  obtain ⟨hx, hb, hml, hown, hts, hX, hbl, hL, hxe, hYx, hK, hE, hK2, hK3, hNc, hl9⟩ := hC
  have hT : rc_T Y (w_sh x) (w_rf x) := w_T (Nat.le_of_eq hYx)
  obtain ⟨σ, fL, fD, hW, hI, hOL, hOD⟩ := hJ
  have hN9 : N ≤ 900 := by omega
  obtain ⟨k, r, σ1, cd, v, σ2, e1, e2, hcd, hcd2, hrv, hI2⟩ := i_wouldCatch w_X hN9 ((xs (4 * N + 1))) hI
  have hth : f_X9_thrown (w_rf x) (x + 308) σ2 = some (cd, σ2) := by rw [← hcd2]; rfl
  refine lv_aload_n hx hb dL_law_1368 rfl (lv_at hl 1 rfl) ?_
  refine lv_aload_n hx hb dL_law_1369 rfl (lv_at hl 0 rfl) ?_
  refine lv_iload hx hb dL_law_1370 (lv_at hl 5 rfl) ?_
  refine lv_iconst (v := 1) hx hb dL_law_1372 (by decide) ?_
  refine lv_iadd hx hb dL_law_1373 ?_
  refine lx_sld hx hb hX hbl hxe hL hS (j := 4 * N + 1) (by omega) (nI_add (4 * N) 1) dL_law_1374 ?_
  refine lv_aload_n hx hb dL_law_1375 rfl (lv_at hl 3 rfl) ?_
  refine lx_wL hxe hS hOD (vx_runSW (As := [.ref x, .int (xs (4 * N + 1)), .ref (x + 316)]) (rest := []) ⟨hx, hb, hml, hown, hts⟩ (k_L_wouldCatch l hl9 hT x ((xs (4 * N + 1))) (x + 316) w_sh9 (w_sh0 (by omega)) dL fL H.size _ _ _ _ _ hcd e1) (vx_cwSW 3 hts (rc_gS tw_5_238 tw_5_239 tw_1_0 tw_6_0) rfl rfl rfl (by decide +kernel) ⟨Nat.le_of_ble_eq_true rfl, Nat.le_of_ble_eq_true rfl⟩) (lx_preL hT hW hK hE hS hOL hK2 hNc [.ref x, .int (xs (4 * N + 1)), .ref (x + 316)]) rfl rfl hl.1 rfl (lv_room (Nat.le_of_ble_eq_true rfl)) dL_law_1376 ⟨by show cells + 1 ≤ 606338; omega, by show slots + 6 ≤ 7201315; omega⟩) (fun fL H locs hp hW hOL hOD hS => ?_)
  refine lv_istore (lv' := [(6, .int cd), (0, .ref b), (1, .ref x), (2, .ref (x + 308)), (3, .ref (x + 316)), (4, .ref (x + 317)), (5, .int (nI (4 * N)))]) hx hb dL_law_1379 hl (by decide) rfl (fun ls hl => ?_)
  refine lv_aload_n hx hb dL_law_1381 rfl (lv_at hl 3 rfl) ?_
  refine lv_aload_n hx hb dL_law_1382 rfl (lv_at hl 1 rfl) ?_
  refine lv_iload hx hb dL_law_1383 (lv_at hl 6 rfl) ?_
  refine lv_iconst (v := 1) hx hb dL_law_1385 (by decide) ?_
  refine lv_iadd hx hb dL_law_1386 ?_
  refine lx_sld hx hb hX hbl hxe hL hS (j := 4 * N + 1) (by omega) (nI_add (4 * N) 1) dL_law_1387 ?_
  refine lx_mi hS hOL hOD (va_runV (As := [.int (xs (4 * N + 1))]) (rest := []) ⟨hx, hb, hml, hown, hts⟩ (k_X9_wouldCatch l hT (x + 308) ((xs (4 * N + 1))) w_sh10 H.size _ _ _ e2) (cwV 1 hts (rc_gV tw_8_112 tw_8_113 tw_8_114 tw_1_14 tw_8_115) rfl rfl rfl (by decide +kernel) ⟨Nat.le_of_ble_eq_true rfl, Nat.le_of_ble_eq_true rfl⟩) (rc_preV hT hW hK hE hS w_sh10 (by decide) rfl (q := (RX9, TX9, 22)) rfl [.int (xs (4 * N + 1))]) rfl rfl hl.1 rfl (lv_room (Nat.le_of_ble_eq_true rfl)) dL_law_1388 ⟨by show cells + 1 + 0 ≤ 606338; omega, by show slots + 6 + 0 ≤ 7201315; omega⟩) (fun H locs hW hOL hOD hS => ?_)
  refine lv_istore (lv' := [(7, .int v), (6, .int cd), (0, .ref b), (1, .ref x), (2, .ref (x + 308)), (3, .ref (x + 316)), (4, .ref (x + 317)), (5, .int (nI (4 * N)))]) hx hb dL_law_1391 hl (by decide) rfl (fun ls hl => ?_)
  refine lv_aload_n hx hb dL_law_1393 rfl (lv_at hl 4 rfl) ?_
  refine lx_mi hS hOL hOD (va_runV (As := []) (rest := []) ⟨hx, hb, hml, hown, hts⟩ (k_X9_thrown l hT (x + 308) w_sh10 H.size _ _ _ hth) (cwV 0 hts (rc_gV tw_7_136 tw_7_137 tw_7_138 tw_1_14 tw_7_139) rfl rfl rfl (by decide +kernel) ⟨Nat.le_of_ble_eq_true rfl, Nat.le_of_ble_eq_true rfl⟩) (rc_preV hT hW hK hE hS w_sh10 (by decide) rfl (q := (RX9, TX9, 22)) rfl []) rfl rfl hl.1 rfl (lv_room (Nat.le_of_ble_eq_true rfl)) dL_law_1394 ⟨by show cells + 1 + 0 + 0 ≤ 606338; omega, by show slots + 6 + 0 + 0 ≤ 7201315; omega⟩) (fun H locs hW hOL hOD hS => ?_)
  refine lv_iload hx hb dL_law_1397 (lv_at hl 1 rfl) ?_
  refine lv_icmp_eq (tgt := 1404) hx hb dL_law_1399 (by decide) (fun _ => ?_) (fun c9 => absurd rfl c9)
  refine lv_iload hx hb dL_law_1404 (lv_at hl 1 rfl) ?_
  refine lv_if_ne (tgt := 1421) hx hb dL_law_1406 (by decide) (fun c9 => ?_) (fun c9 => ?_)
  · refine lv_goto (tgt := 2344) hx hb dL_law_1421 (by decide) ?_
    refine W.widen (k := cells + 3) (n := slots + 18) (by omega) (by omega) ?_
    exact kk _ _ _ ⟨σ2, fL, fD, hW, hI2, hOL, hOD⟩ hS (lv_sub hl [2, 3, 4, 5, 6, 7] rfl)
  · have hk0 : k = 0 := by rcases hcd with ⟨h1, h2⟩ | ⟨h1, h2⟩ <;> first | exact h1 | exact absurd (h2.symm.trans c9) (by decide)
    refine lv_aload_n hx hb dL_law_1409 rfl (lv_at hl 5 rfl) ?_
    refine lv_iconst (v := 0) hx hb dL_law_1410 (by decide) ?_
    refine lx_lald hx hb hK2 hOL dL_law_1411 ?_
    refine lv_iload hx hb dL_law_1412 (lv_at hl 0 rfl) ?_
    refine lv_i2l hx hb dL_law_1414 rfl ?_
    refine W.lcmp hx hb dL_law_1415 ?_
    refine lv_if_eq (tgt := 1421) hx hb dL_law_1416 (by decide) (fun _ => ?_) (fun c8 => absurd ((lg_cmp_eq _ _).mpr (by rw [hp hk0, hrv hk0])) c8)
    refine lv_goto (tgt := 2344) hx hb dL_law_1421 (by decide) ?_
    refine W.widen (k := cells + 3) (n := slots + 18) (by omega) (by omega) ?_
    exact kk _ _ _ ⟨σ2, fL, fD, hW, hI2, hOL, hOD⟩ hS (lv_sub hl [2, 3, 4, 5, 6, 7] rfl)
set_option maxHeartbeats 4000000 in
set_option maxRecDepth 100000 in
theorem lc_wouldLose : lx_case 1424 := by
  intro p l e s m below meth c H locs cells slots Q ls Y x N b L xs dL dD hC hN hS hJ hl hc hs kk
  obtain ⟨hx, hb, hml, hown, hts, hX, hbl, hL, hxe, hYx, hK, hE, hK2, hK3, hNc, hl9⟩ := hC
  have hT : rc_T Y (w_sh x) (w_rf x) := w_T (Nat.le_of_eq hYx)
  obtain ⟨σ, fL, fD, hW, hI, hOL, hOD⟩ := hJ
  have hN9 : N ≤ 900 := by omega
  obtain ⟨k, r, σ1, cd, v, σ2, e1, e2, hcd, hcd2, hrv, hI2⟩ := i_wouldLose w_X hN9 ((xs (4 * N + 1))) hI
  have hth : f_X9_thrown (w_rf x) (x + 308) σ2 = some (cd, σ2) := by rw [← hcd2]; rfl
  refine lv_aload_n hx hb dL_law_1424 rfl (lv_at hl 1 rfl) ?_
  refine lv_aload_n hx hb dL_law_1425 rfl (lv_at hl 0 rfl) ?_
  refine lv_iload hx hb dL_law_1426 (lv_at hl 5 rfl) ?_
  refine lv_iconst (v := 1) hx hb dL_law_1428 (by decide) ?_
  refine lv_iadd hx hb dL_law_1429 ?_
  refine lx_sld hx hb hX hbl hxe hL hS (j := 4 * N + 1) (by omega) (nI_add (4 * N) 1) dL_law_1430 ?_
  refine lv_aload_n hx hb dL_law_1431 rfl (lv_at hl 3 rfl) ?_
  refine lx_wL hxe hS hOD (vx_runSW (As := [.ref x, .int (xs (4 * N + 1)), .ref (x + 316)]) (rest := []) ⟨hx, hb, hml, hown, hts⟩ (k_L_wouldLose l hl9 hT x ((xs (4 * N + 1))) (x + 316) w_sh9 (w_sh0 (by omega)) dL fL H.size _ _ _ _ _ hcd e1) (vx_cwSW 3 hts (rc_gS tw_6_11 tw_6_12 tw_1_0 tw_6_13) rfl rfl rfl (by decide +kernel) ⟨Nat.le_of_ble_eq_true rfl, Nat.le_of_ble_eq_true rfl⟩) (lx_preL hT hW hK hE hS hOL hK2 hNc [.ref x, .int (xs (4 * N + 1)), .ref (x + 316)]) rfl rfl hl.1 rfl (lv_room (Nat.le_of_ble_eq_true rfl)) dL_law_1432 ⟨by show cells + 1 ≤ 606338; omega, by show slots + 6 ≤ 7201315; omega⟩) (fun fL H locs hp hW hOL hOD hS => ?_)
  refine lv_istore (lv' := [(6, .int cd), (0, .ref b), (1, .ref x), (2, .ref (x + 308)), (3, .ref (x + 316)), (4, .ref (x + 317)), (5, .int (nI (4 * N)))]) hx hb dL_law_1435 hl (by decide) rfl (fun ls hl => ?_)
  refine lv_aload_n hx hb dL_law_1437 rfl (lv_at hl 3 rfl) ?_
  refine lv_aload_n hx hb dL_law_1438 rfl (lv_at hl 1 rfl) ?_
  refine lv_iload hx hb dL_law_1439 (lv_at hl 6 rfl) ?_
  refine lv_iconst (v := 1) hx hb dL_law_1441 (by decide) ?_
  refine lv_iadd hx hb dL_law_1442 ?_
  refine lx_sld hx hb hX hbl hxe hL hS (j := 4 * N + 1) (by omega) (nI_add (4 * N) 1) dL_law_1443 ?_
  refine lx_mi hS hOL hOD (va_runV (As := [.int (xs (4 * N + 1))]) (rest := []) ⟨hx, hb, hml, hown, hts⟩ (k_X9_wouldLose l hT (x + 308) ((xs (4 * N + 1))) w_sh10 H.size _ _ _ e2) (cwV 1 hts (rc_gV tw_8_116 tw_8_117 tw_8_118 tw_1_14 tw_8_119) rfl rfl rfl (by decide +kernel) ⟨Nat.le_of_ble_eq_true rfl, Nat.le_of_ble_eq_true rfl⟩) (rc_preV hT hW hK hE hS w_sh10 (by decide) rfl (q := (RX9, TX9, 22)) rfl [.int (xs (4 * N + 1))]) rfl rfl hl.1 rfl (lv_room (Nat.le_of_ble_eq_true rfl)) dL_law_1444 ⟨by show cells + 1 + 0 ≤ 606338; omega, by show slots + 6 + 0 ≤ 7201315; omega⟩) (fun H locs hW hOL hOD hS => ?_)
  refine lv_istore (lv' := [(7, .int v), (6, .int cd), (0, .ref b), (1, .ref x), (2, .ref (x + 308)), (3, .ref (x + 316)), (4, .ref (x + 317)), (5, .int (nI (4 * N)))]) hx hb dL_law_1447 hl (by decide) rfl (fun ls hl => ?_)
  refine lv_aload_n hx hb dL_law_1449 rfl (lv_at hl 4 rfl) ?_
  refine lx_mi hS hOL hOD (va_runV (As := []) (rest := []) ⟨hx, hb, hml, hown, hts⟩ (k_X9_thrown l hT (x + 308) w_sh10 H.size _ _ _ hth) (cwV 0 hts (rc_gV tw_7_136 tw_7_137 tw_7_138 tw_1_14 tw_7_139) rfl rfl rfl (by decide +kernel) ⟨Nat.le_of_ble_eq_true rfl, Nat.le_of_ble_eq_true rfl⟩) (rc_preV hT hW hK hE hS w_sh10 (by decide) rfl (q := (RX9, TX9, 22)) rfl []) rfl rfl hl.1 rfl (lv_room (Nat.le_of_ble_eq_true rfl)) dL_law_1450 ⟨by show cells + 1 + 0 + 0 ≤ 606338; omega, by show slots + 6 + 0 + 0 ≤ 7201315; omega⟩) (fun H locs hW hOL hOD hS => ?_)
  refine lv_iload hx hb dL_law_1453 (lv_at hl 1 rfl) ?_
  refine lv_icmp_eq (tgt := 1460) hx hb dL_law_1455 (by decide) (fun _ => ?_) (fun c9 => absurd rfl c9)
  refine lv_iload hx hb dL_law_1460 (lv_at hl 1 rfl) ?_
  refine lv_if_ne (tgt := 1477) hx hb dL_law_1462 (by decide) (fun c9 => ?_) (fun c9 => ?_)
  · refine lv_goto (tgt := 2344) hx hb dL_law_1477 (by decide) ?_
    refine W.widen (k := cells + 3) (n := slots + 18) (by omega) (by omega) ?_
    exact kk _ _ _ ⟨σ2, fL, fD, hW, hI2, hOL, hOD⟩ hS (lv_sub hl [2, 3, 4, 5, 6, 7] rfl)
  · have hk0 : k = 0 := by rcases hcd with ⟨h1, h2⟩ | ⟨h1, h2⟩ <;> first | exact h1 | exact absurd (h2.symm.trans c9) (by decide)
    refine lv_aload_n hx hb dL_law_1465 rfl (lv_at hl 5 rfl) ?_
    refine lv_iconst (v := 0) hx hb dL_law_1466 (by decide) ?_
    refine lx_lald hx hb hK2 hOL dL_law_1467 ?_
    refine lv_iload hx hb dL_law_1468 (lv_at hl 0 rfl) ?_
    refine lv_i2l hx hb dL_law_1470 rfl ?_
    refine W.lcmp hx hb dL_law_1471 ?_
    refine lv_if_eq (tgt := 1477) hx hb dL_law_1472 (by decide) (fun _ => ?_) (fun c8 => absurd ((lg_cmp_eq _ _).mpr (by rw [hp hk0, hrv hk0])) c8)
    refine lv_goto (tgt := 2344) hx hb dL_law_1477 (by decide) ?_
    refine W.widen (k := cells + 3) (n := slots + 18) (by omega) (by omega) ?_
    exact kk _ _ _ ⟨σ2, fL, fD, hW, hI2, hOL, hOD⟩ hS (lv_sub hl [2, 3, 4, 5, 6, 7] rfl)
set_option maxHeartbeats 4000000 in
set_option maxRecDepth 100000 in
theorem lc_vintage : lx_case 1480 := by
  intro p l e s m below meth c H locs cells slots Q ls Y x N b L xs dL dD hC hN hS hJ hl hc hs kk
  obtain ⟨hx, hb, hml, hown, hts, hX, hbl, hL, hxe, hYx, hK, hE, hK2, hK3, hNc, hl9⟩ := hC
  have hT : rc_T Y (w_sh x) (w_rf x) := w_T (Nat.le_of_eq hYx)
  obtain ⟨σ, fL, fD, hW, hI, hOL, hOD⟩ := hJ
  have hN9 : N ≤ 900 := by omega
  obtain ⟨k, r, σ1, cd, v, σ2, e1, e2, hcd, hcd2, hrv, hI2⟩ := i_vintage w_X hN9 ((xs (4 * N + 1))) hI
  have hth : f_X9_thrown (w_rf x) (x + 308) σ2 = some (cd, σ2) := by rw [← hcd2]; rfl
  refine lv_aload_n hx hb dL_law_1480 rfl (lv_at hl 1 rfl) ?_
  refine lv_aload_n hx hb dL_law_1481 rfl (lv_at hl 0 rfl) ?_
  refine lv_iload hx hb dL_law_1482 (lv_at hl 5 rfl) ?_
  refine lv_iconst (v := 1) hx hb dL_law_1484 (by decide) ?_
  refine lv_iadd hx hb dL_law_1485 ?_
  refine lx_sld hx hb hX hbl hxe hL hS (j := 4 * N + 1) (by omega) (nI_add (4 * N) 1) dL_law_1486 ?_
  refine lv_aload_n hx hb dL_law_1487 rfl (lv_at hl 3 rfl) ?_
  refine lx_wL hxe hS hOD (vx_runSW (As := [.ref x, .int (xs (4 * N + 1)), .ref (x + 316)]) (rest := []) ⟨hx, hb, hml, hown, hts⟩ (k_L_vintage l hl9 hT x ((xs (4 * N + 1))) (x + 316) w_sh9 (w_sh0 (by omega)) dL fL H.size _ _ _ _ _ hcd e1) (vx_cwSW 3 hts (rc_gS tw_6_19 tw_6_20 tw_1_0 tw_6_21) rfl rfl rfl (by decide +kernel) ⟨Nat.le_of_ble_eq_true rfl, Nat.le_of_ble_eq_true rfl⟩) (lx_preL hT hW hK hE hS hOL hK2 hNc [.ref x, .int (xs (4 * N + 1)), .ref (x + 316)]) rfl rfl hl.1 rfl (lv_room (Nat.le_of_ble_eq_true rfl)) dL_law_1488 ⟨by show cells + 1 ≤ 606338; omega, by show slots + 6 ≤ 7201315; omega⟩) (fun fL H locs hp hW hOL hOD hS => ?_)
  refine lv_istore (lv' := [(6, .int cd), (0, .ref b), (1, .ref x), (2, .ref (x + 308)), (3, .ref (x + 316)), (4, .ref (x + 317)), (5, .int (nI (4 * N)))]) hx hb dL_law_1491 hl (by decide) rfl (fun ls hl => ?_)
  refine lv_aload_n hx hb dL_law_1493 rfl (lv_at hl 3 rfl) ?_
  refine lv_aload_n hx hb dL_law_1494 rfl (lv_at hl 1 rfl) ?_
  refine lv_iload hx hb dL_law_1495 (lv_at hl 6 rfl) ?_
  refine lv_iconst (v := 1) hx hb dL_law_1497 (by decide) ?_
  refine lv_iadd hx hb dL_law_1498 ?_
  refine lx_sld hx hb hX hbl hxe hL hS (j := 4 * N + 1) (by omega) (nI_add (4 * N) 1) dL_law_1499 ?_
  refine lx_mi hS hOL hOD (va_runV (As := [.int (xs (4 * N + 1))]) (rest := []) ⟨hx, hb, hml, hown, hts⟩ (k_X9_vintage l hT (x + 308) ((xs (4 * N + 1))) w_sh10 H.size _ _ _ e2) (cwV 1 hts (rc_gV tw_8_121 tw_8_122 tw_8_123 tw_1_14 tw_8_124) rfl rfl rfl (by decide +kernel) ⟨Nat.le_of_ble_eq_true rfl, Nat.le_of_ble_eq_true rfl⟩) (rc_preV hT hW hK hE hS w_sh10 (by decide) rfl (q := (RX9, TX9, 22)) rfl [.int (xs (4 * N + 1))]) rfl rfl hl.1 rfl (lv_room (Nat.le_of_ble_eq_true rfl)) dL_law_1500 ⟨by show cells + 1 + 0 ≤ 606338; omega, by show slots + 6 + 0 ≤ 7201315; omega⟩) (fun H locs hW hOL hOD hS => ?_)
  refine lv_istore (lv' := [(7, .int v), (6, .int cd), (0, .ref b), (1, .ref x), (2, .ref (x + 308)), (3, .ref (x + 316)), (4, .ref (x + 317)), (5, .int (nI (4 * N)))]) hx hb dL_law_1503 hl (by decide) rfl (fun ls hl => ?_)
  refine lv_aload_n hx hb dL_law_1505 rfl (lv_at hl 4 rfl) ?_
  refine lx_mi hS hOL hOD (va_runV (As := []) (rest := []) ⟨hx, hb, hml, hown, hts⟩ (k_X9_thrown l hT (x + 308) w_sh10 H.size _ _ _ hth) (cwV 0 hts (rc_gV tw_7_136 tw_7_137 tw_7_138 tw_1_14 tw_7_139) rfl rfl rfl (by decide +kernel) ⟨Nat.le_of_ble_eq_true rfl, Nat.le_of_ble_eq_true rfl⟩) (rc_preV hT hW hK hE hS w_sh10 (by decide) rfl (q := (RX9, TX9, 22)) rfl []) rfl rfl hl.1 rfl (lv_room (Nat.le_of_ble_eq_true rfl)) dL_law_1506 ⟨by show cells + 1 + 0 + 0 ≤ 606338; omega, by show slots + 6 + 0 + 0 ≤ 7201315; omega⟩) (fun H locs hW hOL hOD hS => ?_)
  refine lv_iload hx hb dL_law_1509 (lv_at hl 1 rfl) ?_
  refine lv_icmp_eq (tgt := 1516) hx hb dL_law_1511 (by decide) (fun _ => ?_) (fun c9 => absurd rfl c9)
  refine lv_iload hx hb dL_law_1516 (lv_at hl 1 rfl) ?_
  refine lv_if_ne (tgt := 1533) hx hb dL_law_1518 (by decide) (fun c9 => ?_) (fun c9 => ?_)
  · refine lv_goto (tgt := 2344) hx hb dL_law_1533 (by decide) ?_
    refine W.widen (k := cells + 3) (n := slots + 18) (by omega) (by omega) ?_
    exact kk _ _ _ ⟨σ2, fL, fD, hW, hI2, hOL, hOD⟩ hS (lv_sub hl [2, 3, 4, 5, 6, 7] rfl)
  · have hk0 : k = 0 := by rcases hcd with ⟨h1, h2⟩ | ⟨h1, h2⟩ <;> first | exact h1 | exact absurd (h2.symm.trans c9) (by decide)
    refine lv_aload_n hx hb dL_law_1521 rfl (lv_at hl 5 rfl) ?_
    refine lv_iconst (v := 0) hx hb dL_law_1522 (by decide) ?_
    refine lx_lald hx hb hK2 hOL dL_law_1523 ?_
    refine lv_iload hx hb dL_law_1524 (lv_at hl 0 rfl) ?_
    refine lv_i2l hx hb dL_law_1526 rfl ?_
    refine W.lcmp hx hb dL_law_1527 ?_
    refine lv_if_eq (tgt := 1533) hx hb dL_law_1528 (by decide) (fun _ => ?_) (fun c8 => absurd ((lg_cmp_eq _ _).mpr (by rw [hp hk0, hrv hk0])) c8)
    refine lv_goto (tgt := 2344) hx hb dL_law_1533 (by decide) ?_
    refine W.widen (k := cells + 3) (n := slots + 18) (by omega) (by omega) ?_
    exact kk _ _ _ ⟨σ2, fL, fD, hW, hI2, hOL, hOD⟩ hS (lv_sub hl [2, 3, 4, 5, 6, 7] rfl)
set_option maxHeartbeats 4000000 in
set_option maxRecDepth 100000 in
theorem lc_stormOf : lx_case 1536 := by
  intro p l e s m below meth c H locs cells slots Q ls Y x N b L xs dL dD hC hN hS hJ hl hc hs kk
  obtain ⟨hx, hb, hml, hown, hts, hX, hbl, hL, hxe, hYx, hK, hE, hK2, hK3, hNc, hl9⟩ := hC
  have hT : rc_T Y (w_sh x) (w_rf x) := w_T (Nat.le_of_eq hYx)
  obtain ⟨σ, fL, fD, hW, hI, hOL, hOD⟩ := hJ
  have hN9 : N ≤ 900 := by omega
  obtain ⟨k, r, σ1, cd, v, σ2, e1, e2, hcd, hcd2, hrv, hI2⟩ := i_stormOf w_X hN9 ((xs (4 * N + 1))) ((xs (4 * N + 2))) hI
  have hth : f_X9_thrown (w_rf x) (x + 308) σ2 = some (cd, σ2) := by rw [← hcd2]; rfl
  refine lv_aload_n hx hb dL_law_1536 rfl (lv_at hl 1 rfl) ?_
  refine lv_aload_n hx hb dL_law_1537 rfl (lv_at hl 0 rfl) ?_
  refine lv_iload hx hb dL_law_1538 (lv_at hl 5 rfl) ?_
  refine lv_iconst (v := 1) hx hb dL_law_1540 (by decide) ?_
  refine lv_iadd hx hb dL_law_1541 ?_
  refine lx_sld hx hb hX hbl hxe hL hS (j := 4 * N + 1) (by omega) (nI_add (4 * N) 1) dL_law_1542 ?_
  refine lv_aload_n hx hb dL_law_1543 rfl (lv_at hl 0 rfl) ?_
  refine lv_iload hx hb dL_law_1544 (lv_at hl 5 rfl) ?_
  refine lv_iconst (v := 2) hx hb dL_law_1546 (by decide) ?_
  refine lv_iadd hx hb dL_law_1547 ?_
  refine lx_sld hx hb hX hbl hxe hL hS (j := 4 * N + 2) (by omega) (nI_add (4 * N) 2) dL_law_1548 ?_
  refine lv_aload_n hx hb dL_law_1549 rfl (lv_at hl 3 rfl) ?_
  refine lx_wL hxe hS hOD (vx_runSW (As := [.ref x, .int (xs (4 * N + 1)), .int (xs (4 * N + 2)), .ref (x + 316)]) (rest := []) ⟨hx, hb, hml, hown, hts⟩ (k_L_stormOf l hl9 hT x ((xs (4 * N + 1))) ((xs (4 * N + 2))) (x + 316) w_sh9 (w_sh0 (by omega)) dL fL H.size _ _ _ _ _ hcd e1) (vx_cwSW 4 hts (rc_gS tw_6_30 tw_6_31 tw_1_0 tw_6_32) rfl rfl rfl (by decide +kernel) ⟨Nat.le_of_ble_eq_true rfl, Nat.le_of_ble_eq_true rfl⟩) (lx_preL hT hW hK hE hS hOL hK2 hNc [.ref x, .int (xs (4 * N + 1)), .int (xs (4 * N + 2)), .ref (x + 316)]) rfl rfl hl.1 rfl (lv_room (Nat.le_of_ble_eq_true rfl)) dL_law_1550 ⟨by show cells + 1 ≤ 606338; omega, by show slots + 6 ≤ 7201315; omega⟩) (fun fL H locs hp hW hOL hOD hS => ?_)
  refine lv_istore (lv' := [(6, .int cd), (0, .ref b), (1, .ref x), (2, .ref (x + 308)), (3, .ref (x + 316)), (4, .ref (x + 317)), (5, .int (nI (4 * N)))]) hx hb dL_law_1553 hl (by decide) rfl (fun ls hl => ?_)
  refine lv_aload_n hx hb dL_law_1555 rfl (lv_at hl 3 rfl) ?_
  refine lv_aload_n hx hb dL_law_1556 rfl (lv_at hl 1 rfl) ?_
  refine lv_iload hx hb dL_law_1557 (lv_at hl 6 rfl) ?_
  refine lv_iconst (v := 1) hx hb dL_law_1559 (by decide) ?_
  refine lv_iadd hx hb dL_law_1560 ?_
  refine lx_sld hx hb hX hbl hxe hL hS (j := 4 * N + 1) (by omega) (nI_add (4 * N) 1) dL_law_1561 ?_
  refine lv_aload_n hx hb dL_law_1562 rfl (lv_at hl 1 rfl) ?_
  refine lv_iload hx hb dL_law_1563 (lv_at hl 6 rfl) ?_
  refine lv_iconst (v := 2) hx hb dL_law_1565 (by decide) ?_
  refine lv_iadd hx hb dL_law_1566 ?_
  refine lx_sld hx hb hX hbl hxe hL hS (j := 4 * N + 2) (by omega) (nI_add (4 * N) 2) dL_law_1567 ?_
  refine lx_mi hS hOL hOD (va_runV (As := [.int (xs (4 * N + 1)), .int (xs (4 * N + 2))]) (rest := []) ⟨hx, hb, hml, hown, hts⟩ (k_X9_stormOf l hT (x + 308) ((xs (4 * N + 1))) ((xs (4 * N + 2))) w_sh10 H.size _ _ _ e2) (cwV 2 hts (rc_gV tw_8_125 tw_8_126 tw_8_127 tw_1_14 tw_8_128) rfl rfl rfl (by decide +kernel) ⟨Nat.le_of_ble_eq_true rfl, Nat.le_of_ble_eq_true rfl⟩) (rc_preV hT hW hK hE hS w_sh10 (by decide) rfl (q := (RX9, TX9, 22)) rfl [.int (xs (4 * N + 1)), .int (xs (4 * N + 2))]) rfl rfl hl.1 rfl (lv_room (Nat.le_of_ble_eq_true rfl)) dL_law_1568 ⟨by show cells + 1 + 0 ≤ 606338; omega, by show slots + 6 + 0 ≤ 7201315; omega⟩) (fun H locs hW hOL hOD hS => ?_)
  refine lv_istore (lv' := [(7, .int v), (6, .int cd), (0, .ref b), (1, .ref x), (2, .ref (x + 308)), (3, .ref (x + 316)), (4, .ref (x + 317)), (5, .int (nI (4 * N)))]) hx hb dL_law_1571 hl (by decide) rfl (fun ls hl => ?_)
  refine lv_aload_n hx hb dL_law_1573 rfl (lv_at hl 4 rfl) ?_
  refine lx_mi hS hOL hOD (va_runV (As := []) (rest := []) ⟨hx, hb, hml, hown, hts⟩ (k_X9_thrown l hT (x + 308) w_sh10 H.size _ _ _ hth) (cwV 0 hts (rc_gV tw_7_136 tw_7_137 tw_7_138 tw_1_14 tw_7_139) rfl rfl rfl (by decide +kernel) ⟨Nat.le_of_ble_eq_true rfl, Nat.le_of_ble_eq_true rfl⟩) (rc_preV hT hW hK hE hS w_sh10 (by decide) rfl (q := (RX9, TX9, 22)) rfl []) rfl rfl hl.1 rfl (lv_room (Nat.le_of_ble_eq_true rfl)) dL_law_1574 ⟨by show cells + 1 + 0 + 0 ≤ 606338; omega, by show slots + 6 + 0 + 0 ≤ 7201315; omega⟩) (fun H locs hW hOL hOD hS => ?_)
  refine lv_iload hx hb dL_law_1577 (lv_at hl 1 rfl) ?_
  refine lv_icmp_eq (tgt := 1584) hx hb dL_law_1579 (by decide) (fun _ => ?_) (fun c9 => absurd rfl c9)
  refine lv_iload hx hb dL_law_1584 (lv_at hl 1 rfl) ?_
  refine lv_if_ne (tgt := 1601) hx hb dL_law_1586 (by decide) (fun c9 => ?_) (fun c9 => ?_)
  · refine lv_goto (tgt := 2344) hx hb dL_law_1601 (by decide) ?_
    refine W.widen (k := cells + 3) (n := slots + 18) (by omega) (by omega) ?_
    exact kk _ _ _ ⟨σ2, fL, fD, hW, hI2, hOL, hOD⟩ hS (lv_sub hl [2, 3, 4, 5, 6, 7] rfl)
  · have hk0 : k = 0 := by rcases hcd with ⟨h1, h2⟩ | ⟨h1, h2⟩ | ⟨h1, h2⟩ <;> first | exact h1 | exact absurd (h2.symm.trans c9) (by decide)
    refine lv_aload_n hx hb dL_law_1589 rfl (lv_at hl 5 rfl) ?_
    refine lv_iconst (v := 0) hx hb dL_law_1590 (by decide) ?_
    refine lx_lald hx hb hK2 hOL dL_law_1591 ?_
    refine lv_iload hx hb dL_law_1592 (lv_at hl 0 rfl) ?_
    refine lv_i2l hx hb dL_law_1594 rfl ?_
    refine W.lcmp hx hb dL_law_1595 ?_
    refine lv_if_eq (tgt := 1601) hx hb dL_law_1596 (by decide) (fun _ => ?_) (fun c8 => absurd ((lg_cmp_eq _ _).mpr (by rw [hp hk0, hrv hk0])) c8)
    refine lv_goto (tgt := 2344) hx hb dL_law_1601 (by decide) ?_
    refine W.widen (k := cells + 3) (n := slots + 18) (by omega) (by omega) ?_
    exact kk _ _ _ ⟨σ2, fL, fD, hW, hI2, hOL, hOD⟩ hS (lv_sub hl [2, 3, 4, 5, 6, 7] rfl)
set_option maxHeartbeats 4000000 in
set_option maxRecDepth 100000 in
theorem lc_canPour : lx_case 1604 := by
  intro p l e s m below meth c H locs cells slots Q ls Y x N b L xs dL dD hC hN hS hJ hl hc hs kk
  obtain ⟨hx, hb, hml, hown, hts, hX, hbl, hL, hxe, hYx, hK, hE, hK2, hK3, hNc, hl9⟩ := hC
  have hT : rc_T Y (w_sh x) (w_rf x) := w_T (Nat.le_of_eq hYx)
  obtain ⟨σ, fL, fD, hW, hI, hOL, hOD⟩ := hJ
  have hN9 : N ≤ 900 := by omega
  obtain ⟨k, r, σ1, cd, v, σ2, e1, e2, hcd, hcd2, hrv, hI2⟩ := i_canPour w_X hN9 ((xs (4 * N + 1))) ((xs (4 * N + 2))) hI
  have hth : f_X9_thrown (w_rf x) (x + 308) σ2 = some (cd, σ2) := by rw [← hcd2]; rfl
  refine lv_aload_n hx hb dL_law_1604 rfl (lv_at hl 1 rfl) ?_
  refine lv_aload_n hx hb dL_law_1605 rfl (lv_at hl 0 rfl) ?_
  refine lv_iload hx hb dL_law_1606 (lv_at hl 5 rfl) ?_
  refine lv_iconst (v := 1) hx hb dL_law_1608 (by decide) ?_
  refine lv_iadd hx hb dL_law_1609 ?_
  refine lx_sld hx hb hX hbl hxe hL hS (j := 4 * N + 1) (by omega) (nI_add (4 * N) 1) dL_law_1610 ?_
  refine lv_aload_n hx hb dL_law_1611 rfl (lv_at hl 0 rfl) ?_
  refine lv_iload hx hb dL_law_1612 (lv_at hl 5 rfl) ?_
  refine lv_iconst (v := 2) hx hb dL_law_1614 (by decide) ?_
  refine lv_iadd hx hb dL_law_1615 ?_
  refine lx_sld hx hb hX hbl hxe hL hS (j := 4 * N + 2) (by omega) (nI_add (4 * N) 2) dL_law_1616 ?_
  refine lv_aload_n hx hb dL_law_1617 rfl (lv_at hl 3 rfl) ?_
  refine lx_wL hxe hS hOD (vx_runSW (As := [.ref x, .int (xs (4 * N + 1)), .int (xs (4 * N + 2)), .ref (x + 316)]) (rest := []) ⟨hx, hb, hml, hown, hts⟩ (k_L_canPour l hl9 hT x ((xs (4 * N + 1))) ((xs (4 * N + 2))) (x + 316) w_sh9 (w_sh0 (by omega)) dL fL H.size _ _ _ _ _ hcd e1) (vx_cwSW 4 hts (rc_gS tw_6_42 tw_6_43 tw_1_0 tw_6_44) rfl rfl rfl (by decide +kernel) ⟨Nat.le_of_ble_eq_true rfl, Nat.le_of_ble_eq_true rfl⟩) (lx_preL hT hW hK hE hS hOL hK2 hNc [.ref x, .int (xs (4 * N + 1)), .int (xs (4 * N + 2)), .ref (x + 316)]) rfl rfl hl.1 rfl (lv_room (Nat.le_of_ble_eq_true rfl)) dL_law_1618 ⟨by show cells + 2 ≤ 606338; omega, by show slots + 12 ≤ 7201315; omega⟩) (fun fL H locs hp hW hOL hOD hS => ?_)
  refine lv_istore (lv' := [(6, .int cd), (0, .ref b), (1, .ref x), (2, .ref (x + 308)), (3, .ref (x + 316)), (4, .ref (x + 317)), (5, .int (nI (4 * N)))]) hx hb dL_law_1621 hl (by decide) rfl (fun ls hl => ?_)
  refine lv_aload_n hx hb dL_law_1623 rfl (lv_at hl 3 rfl) ?_
  refine lv_aload_n hx hb dL_law_1624 rfl (lv_at hl 1 rfl) ?_
  refine lv_iload hx hb dL_law_1625 (lv_at hl 6 rfl) ?_
  refine lv_iconst (v := 1) hx hb dL_law_1627 (by decide) ?_
  refine lv_iadd hx hb dL_law_1628 ?_
  refine lx_sld hx hb hX hbl hxe hL hS (j := 4 * N + 1) (by omega) (nI_add (4 * N) 1) dL_law_1629 ?_
  refine lv_aload_n hx hb dL_law_1630 rfl (lv_at hl 1 rfl) ?_
  refine lv_iload hx hb dL_law_1631 (lv_at hl 6 rfl) ?_
  refine lv_iconst (v := 2) hx hb dL_law_1633 (by decide) ?_
  refine lv_iadd hx hb dL_law_1634 ?_
  refine lx_sld hx hb hX hbl hxe hL hS (j := 4 * N + 2) (by omega) (nI_add (4 * N) 2) dL_law_1635 ?_
  refine lx_mi hS hOL hOD (va_runV (As := [.int (xs (4 * N + 1)), .int (xs (4 * N + 2))]) (rest := []) ⟨hx, hb, hml, hown, hts⟩ (k_X9_canPour l hT (x + 308) ((xs (4 * N + 1))) ((xs (4 * N + 2))) w_sh10 H.size _ _ _ e2) (cwV 2 hts (rc_gV tw_8_129 tw_8_130 tw_8_131 tw_1_14 tw_8_132) rfl rfl rfl (by decide +kernel) ⟨Nat.le_of_ble_eq_true rfl, Nat.le_of_ble_eq_true rfl⟩) (rc_preV hT hW hK hE hS w_sh10 (by decide) rfl (q := (RX9, TX9, 22)) rfl [.int (xs (4 * N + 1)), .int (xs (4 * N + 2))]) rfl rfl hl.1 rfl (lv_room (Nat.le_of_ble_eq_true rfl)) dL_law_1636 ⟨by show cells + 2 + 0 ≤ 606338; omega, by show slots + 12 + 0 ≤ 7201315; omega⟩) (fun H locs hW hOL hOD hS => ?_)
  refine lv_istore (lv' := [(7, .int v), (6, .int cd), (0, .ref b), (1, .ref x), (2, .ref (x + 308)), (3, .ref (x + 316)), (4, .ref (x + 317)), (5, .int (nI (4 * N)))]) hx hb dL_law_1639 hl (by decide) rfl (fun ls hl => ?_)
  refine lv_aload_n hx hb dL_law_1641 rfl (lv_at hl 4 rfl) ?_
  refine lx_mi hS hOL hOD (va_runV (As := []) (rest := []) ⟨hx, hb, hml, hown, hts⟩ (k_X9_thrown l hT (x + 308) w_sh10 H.size _ _ _ hth) (cwV 0 hts (rc_gV tw_7_136 tw_7_137 tw_7_138 tw_1_14 tw_7_139) rfl rfl rfl (by decide +kernel) ⟨Nat.le_of_ble_eq_true rfl, Nat.le_of_ble_eq_true rfl⟩) (rc_preV hT hW hK hE hS w_sh10 (by decide) rfl (q := (RX9, TX9, 22)) rfl []) rfl rfl hl.1 rfl (lv_room (Nat.le_of_ble_eq_true rfl)) dL_law_1642 ⟨by show cells + 2 + 0 + 0 ≤ 606338; omega, by show slots + 12 + 0 + 0 ≤ 7201315; omega⟩) (fun H locs hW hOL hOD hS => ?_)
  refine lv_iload hx hb dL_law_1645 (lv_at hl 1 rfl) ?_
  refine lv_icmp_eq (tgt := 1652) hx hb dL_law_1647 (by decide) (fun _ => ?_) (fun c9 => absurd rfl c9)
  refine lv_iload hx hb dL_law_1652 (lv_at hl 1 rfl) ?_
  refine lv_if_ne (tgt := 1676) hx hb dL_law_1654 (by decide) (fun c9 => ?_) (fun c9 => ?_)
  · refine lv_goto (tgt := 2344) hx hb dL_law_1676 (by decide) ?_
    refine W.widen (k := cells + 3) (n := slots + 18) (by omega) (by omega) ?_
    exact kk _ _ _ ⟨σ2, fL, fD, hW, hI2, hOL, hOD⟩ hS (lv_sub hl [2, 3, 4, 5, 6, 7] rfl)
  · have hk0 : k = 0 := by rcases hcd with ⟨h1, h2⟩ | ⟨h1, h2⟩ <;> first | exact h1 | exact absurd (h2.symm.trans c9) (by decide)
    refine lv_aload_n hx hb dL_law_1657 rfl (lv_at hl 5 rfl) ?_
    refine lv_iconst (v := 0) hx hb dL_law_1658 (by decide) ?_
    refine lx_lald hx hb hK2 hOL dL_law_1659 ?_
    refine lv_iload hx hb dL_law_1660 (lv_at hl 0 rfl) ?_
    refine lx_b01L hx hb dL_law_1662 dL_law_1665 dL_law_1666 dL_law_1669 ?_
    refine W.lcmp hx hb dL_law_1670 ?_
    refine lv_if_eq (tgt := 1676) hx hb dL_law_1671 (by decide) (fun _ => ?_) (fun c8 => absurd ((lg_cmp_eq _ _).mpr (by rw [hp hk0, hrv hk0])) c8)
    refine lv_goto (tgt := 2344) hx hb dL_law_1676 (by decide) ?_
    refine W.widen (k := cells + 3) (n := slots + 18) (by omega) (by omega) ?_
    exact kk _ _ _ ⟨σ2, fL, fD, hW, hI2, hOL, hOD⟩ hS (lv_sub hl [2, 3, 4, 5, 6, 7] rfl)
