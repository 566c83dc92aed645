set_option maxHeartbeats 4000000 in
set_option maxRecDepth 100000 in
theorem lc_storm : lx_case 216 := by
  intro p l e s m below meth c H locs cells slots Q ls Y x N b L xs dL dD hC hN hS hJ hl hc hs kk
  obtain ⟨hx, hb, hml, hown, hts, hX, hbl, hL, hxe, hYx, hK, hE, hK2, hK3, hNc, hl9⟩ := hC
  have hT : rc_T Y (w_sh x) (w_rf x) := w_T (Nat.le_of_eq hYx)
  obtain ⟨σ, fL, fD, hW, hI, hOL, hOD⟩ := hJ
  have hN9 : N ≤ 900 := by omega
  obtain ⟨k, r, σ1, cd, v, σ2, e1, e2, hcd, hcd2, hrv, hI2⟩ := i_storm w_X hN9 ((xs (4 * N + 1))) ((xs (4 * N + 2))) hI
  have hth : f_X9_thrown (w_rf x) (x + 308) σ2 = some (cd, σ2) := by rw [← hcd2]; rfl
  refine lv_aload_n hx hb dL_law_216 rfl (lv_at hl 1 rfl) ?_
  refine lv_aload_n hx hb dL_law_217 rfl (lv_at hl 0 rfl) ?_
  refine lv_iload hx hb dL_law_218 (lv_at hl 5 rfl) ?_
  refine lv_iconst (v := 1) hx hb dL_law_220 (by decide) ?_
  refine lv_iadd hx hb dL_law_221 ?_
  refine lx_sld hx hb hX hbl hxe hL hS (j := 4 * N + 1) (by omega) (nI_add (4 * N) 1) dL_law_222 ?_
  refine lv_aload_n hx hb dL_law_223 rfl (lv_at hl 0 rfl) ?_
  refine lv_iload hx hb dL_law_224 (lv_at hl 5 rfl) ?_
  refine lv_iconst (v := 2) hx hb dL_law_226 (by decide) ?_
  refine lv_iadd hx hb dL_law_227 ?_
  refine lx_sld hx hb hX hbl hxe hL hS (j := 4 * N + 2) (by omega) (nI_add (4 * N) 2) dL_law_228 ?_
  refine lv_aload_n hx hb dL_law_229 rfl (lv_at hl 3 rfl) ?_
  refine lx_wL hxe hS hOD (vx_runSW (As := [.ref x, .int (xs (4 * N + 1)), .int (xs (4 * N + 2)), .ref (x + 316)]) (rest := []) ⟨hx, hb, hml, hown, hts⟩ (k_L_storm l hl9 hT x ((xs (4 * N + 1))) ((xs (4 * N + 2))) (x + 316) w_sh9 (w_sh0 (by omega)) dL fL H.size _ _ _ _ _ hcd e1) (vx_cwSW 4 hts (rc_gS tw_4_73 tw_4_74 tw_1_0 tw_4_75) rfl rfl rfl (by decide +kernel) ⟨Nat.le_of_ble_eq_true rfl, Nat.le_of_ble_eq_true rfl⟩) (lx_preL hT hW hK hE hS hOL hK2 hNc [.ref x, .int (xs (4 * N + 1)), .int (xs (4 * N + 2)), .ref (x + 316)]) rfl rfl hl.1 rfl (lv_room (Nat.le_of_ble_eq_true rfl)) dL_law_230 ⟨by show cells + 1 ≤ 606338; omega, by show slots + 6 ≤ 7201315; omega⟩) (fun fL H locs hp hW hOL hOD hS => ?_)
  refine lv_istore (lv' := [(6, .int cd), (0, .ref b), (1, .ref x), (2, .ref (x + 308)), (3, .ref (x + 316)), (4, .ref (x + 317)), (5, .int (nI (4 * N)))]) hx hb dL_law_233 hl (by decide) rfl (fun ls hl => ?_)
  refine lv_aload_n hx hb dL_law_235 rfl (lv_at hl 3 rfl) ?_
  refine lv_aload_n hx hb dL_law_236 rfl (lv_at hl 1 rfl) ?_
  refine lv_iload hx hb dL_law_237 (lv_at hl 6 rfl) ?_
  refine lv_iconst (v := 1) hx hb dL_law_239 (by decide) ?_
  refine lv_iadd hx hb dL_law_240 ?_
  refine lx_sld hx hb hX hbl hxe hL hS (j := 4 * N + 1) (by omega) (nI_add (4 * N) 1) dL_law_241 ?_
  refine lv_aload_n hx hb dL_law_242 rfl (lv_at hl 1 rfl) ?_
  refine lv_iload hx hb dL_law_243 (lv_at hl 6 rfl) ?_
  refine lv_iconst (v := 2) hx hb dL_law_245 (by decide) ?_
  refine lv_iadd hx hb dL_law_246 ?_
  refine lx_sld hx hb hX hbl hxe hL hS (j := 4 * N + 2) (by omega) (nI_add (4 * N) 2) dL_law_247 ?_
  refine lx_mi hS hOL hOD (va_runV (As := [.int (xs (4 * N + 1)), .int (xs (4 * N + 2))]) (rest := []) ⟨hx, hb, hml, hown, hts⟩ (k_X9_storm l hT (x + 308) ((xs (4 * N + 1))) ((xs (4 * N + 2))) w_sh10 H.size _ _ _ e2) (cwV 2 hts (rc_gV tw_7_140 tw_7_141 tw_7_142 tw_1_14 tw_7_143) rfl rfl rfl (by decide +kernel) ⟨Nat.le_of_ble_eq_true rfl, Nat.le_of_ble_eq_true rfl⟩) (rc_preV hT hW hK hE hS w_sh10 (by decide) rfl (q := (RX9, TX9, 22)) rfl [.int (xs (4 * N + 1)), .int (xs (4 * N + 2))]) rfl rfl hl.1 rfl (lv_room (Nat.le_of_ble_eq_true rfl)) dL_law_248 ⟨by show cells + 1 + 0 ≤ 606338; omega, by show slots + 6 + 0 ≤ 7201315; omega⟩) (fun H locs hW hOL hOD hS => ?_)
  refine lv_istore (lv' := [(7, .int v), (6, .int cd), (0, .ref b), (1, .ref x), (2, .ref (x + 308)), (3, .ref (x + 316)), (4, .ref (x + 317)), (5, .int (nI (4 * N)))]) hx hb dL_law_251 hl (by decide) rfl (fun ls hl => ?_)
  refine lv_aload_n hx hb dL_law_253 rfl (lv_at hl 4 rfl) ?_
  refine lx_mi hS hOL hOD (va_runV (As := []) (rest := []) ⟨hx, hb, hml, hown, hts⟩ (k_X9_thrown l hT (x + 308) w_sh10 H.size _ _ _ hth) (cwV 0 hts (rc_gV tw_7_136 tw_7_137 tw_7_138 tw_1_14 tw_7_139) rfl rfl rfl (by decide +kernel) ⟨Nat.le_of_ble_eq_true rfl, Nat.le_of_ble_eq_true rfl⟩) (rc_preV hT hW hK hE hS w_sh10 (by decide) rfl (q := (RX9, TX9, 22)) rfl []) rfl rfl hl.1 rfl (lv_room (Nat.le_of_ble_eq_true rfl)) dL_law_254 ⟨by show cells + 1 + 0 + 0 ≤ 606338; omega, by show slots + 6 + 0 + 0 ≤ 7201315; omega⟩) (fun H locs hW hOL hOD hS => ?_)
  refine lv_iload hx hb dL_law_257 (lv_at hl 1 rfl) ?_
  refine lv_icmp_eq (tgt := 264) hx hb dL_law_259 (by decide) (fun _ => ?_) (fun c9 => absurd rfl c9)
  refine lv_iload hx hb dL_law_264 (lv_at hl 1 rfl) ?_
  refine lv_if_ne (tgt := 281) hx hb dL_law_266 (by decide) (fun c9 => ?_) (fun c9 => ?_)
  · refine lv_goto (tgt := 2344) hx hb dL_law_281 (by decide) ?_
    refine W.widen (k := cells + 3) (n := slots + 18) (by omega) (by omega) ?_
    exact kk _ _ _ ⟨σ2, fL, fD, hW, hI2, hOL, hOD⟩ hS (lv_sub hl [2, 3, 4, 5, 6, 7] rfl)
  · have hk0 : k = 0 := by rcases hcd with ⟨h1, h2⟩ | ⟨h1, h2⟩ <;> first | exact h1 | exact absurd (h2.symm.trans c9) (by decide)
    refine lv_aload_n hx hb dL_law_269 rfl (lv_at hl 5 rfl) ?_
    refine lv_iconst (v := 0) hx hb dL_law_270 (by decide) ?_
    refine lx_lald hx hb hK2 hOL dL_law_271 ?_
    refine lv_iload hx hb dL_law_272 (lv_at hl 0 rfl) ?_
    refine lv_i2l hx hb dL_law_274 rfl ?_
    refine W.lcmp hx hb dL_law_275 ?_
    refine lv_if_eq (tgt := 281) hx hb dL_law_276 (by decide) (fun _ => ?_) (fun c8 => absurd ((lg_cmp_eq _ _).mpr (by rw [hp hk0, hrv hk0])) c8)
    refine lv_goto (tgt := 2344) hx hb dL_law_281 (by decide) ?_
    refine W.widen (k := cells + 3) (n := slots + 18) (by omega) (by omega) ?_
    exact kk _ _ _ ⟨σ2, fL, fD, hW, hI2, hOL, hOD⟩ hS (lv_sub hl [2, 3, 4, 5, 6, 7] rfl)
set_option maxHeartbeats 4000000 in
set_option maxRecDepth 100000 in
theorem lc_barrel : lx_case 284 := by
  intro p l e s m below meth c H locs cells slots Q ls Y x N b L xs dL dD hC hN hS hJ hl hc hs kk
  obtain ⟨hx, hb, hml, hown, hts, hX, hbl, hL, hxe, hYx, hK, hE, hK2, hK3, hNc, hl9⟩ := hC
  have hT : rc_T Y (w_sh x) (w_rf x) := w_T (Nat.le_of_eq hYx)
  obtain ⟨σ, fL, fD, hW, hI, hOL, hOD⟩ := hJ
  have hN9 : N ≤ 900 := by omega
  obtain ⟨k, r, σ1, cd, v, σ2, e1, e2, hcd, hcd2, hrv, hI2⟩ := i_barrel w_X hN9 ((xs (4 * N + 1))) hI
  have hth : f_X9_thrown (w_rf x) (x + 308) σ2 = some (cd, σ2) := by rw [← hcd2]; rfl
  refine lv_aload_n hx hb dL_law_284 rfl (lv_at hl 1 rfl) ?_
  refine lv_aload_n hx hb dL_law_285 rfl (lv_at hl 0 rfl) ?_
  refine lv_iload hx hb dL_law_286 (lv_at hl 5 rfl) ?_
  refine lv_iconst (v := 1) hx hb dL_law_288 (by decide) ?_
  refine lv_iadd hx hb dL_law_289 ?_
  refine lx_sld hx hb hX hbl hxe hL hS (j := 4 * N + 1) (by omega) (nI_add (4 * N) 1) dL_law_290 ?_
  refine lv_aload_n hx hb dL_law_291 rfl (lv_at hl 3 rfl) ?_
  refine lx_wL hxe hS hOD (vx_runSW (As := [.ref x, .int (xs (4 * N + 1)), .ref (x + 316)]) (rest := []) ⟨hx, hb, hml, hown, hts⟩ (k_L_barrel l hl9 hT x ((xs (4 * N + 1))) (x + 316) w_sh9 (w_sh0 (by omega)) dL fL H.size _ _ _ _ _ hcd e1) (vx_cwSW 3 hts (rc_gS tw_4_142 tw_4_143 tw_1_0 tw_4_144) rfl rfl rfl (by decide +kernel) ⟨Nat.le_of_ble_eq_true rfl, Nat.le_of_ble_eq_true rfl⟩) (lx_preL hT hW hK hE hS hOL hK2 hNc [.ref x, .int (xs (4 * N + 1)), .ref (x + 316)]) rfl rfl hl.1 rfl (lv_room (Nat.le_of_ble_eq_true rfl)) dL_law_292 ⟨by show cells + 1 ≤ 606338; omega, by show slots + 6 ≤ 7201315; omega⟩) (fun fL H locs hp hW hOL hOD hS => ?_)
  refine lv_istore (lv' := [(6, .int cd), (0, .ref b), (1, .ref x), (2, .ref (x + 308)), (3, .ref (x + 316)), (4, .ref (x + 317)), (5, .int (nI (4 * N)))]) hx hb dL_law_295 hl (by decide) rfl (fun ls hl => ?_)
  refine lv_aload_n hx hb dL_law_297 rfl (lv_at hl 3 rfl) ?_
  refine lv_aload_n hx hb dL_law_298 rfl (lv_at hl 1 rfl) ?_
  refine lv_iload hx hb dL_law_299 (lv_at hl 6 rfl) ?_
  refine lv_iconst (v := 1) hx hb dL_law_301 (by decide) ?_
  refine lv_iadd hx hb dL_law_302 ?_
  refine lx_sld hx hb hX hbl hxe hL hS (j := 4 * N + 1) (by omega) (nI_add (4 * N) 1) dL_law_303 ?_
  refine lx_mi hS hOL hOD (va_runV (As := [.int (xs (4 * N + 1))]) (rest := []) ⟨hx, hb, hml, hown, hts⟩ (k_X9_barrel l hT (x + 308) ((xs (4 * N + 1))) w_sh10 H.size _ _ _ e2) (cwV 1 hts (rc_gV tw_7_191 tw_7_192 tw_7_193 tw_1_14 tw_7_194) rfl rfl rfl (by decide +kernel) ⟨Nat.le_of_ble_eq_true rfl, Nat.le_of_ble_eq_true rfl⟩) (rc_preV hT hW hK hE hS w_sh10 (by decide) rfl (q := (RX9, TX9, 22)) rfl [.int (xs (4 * N + 1))]) rfl rfl hl.1 rfl (lv_room (Nat.le_of_ble_eq_true rfl)) dL_law_304 ⟨by show cells + 1 + 0 ≤ 606338; omega, by show slots + 6 + 0 ≤ 7201315; omega⟩) (fun H locs hW hOL hOD hS => ?_)
  refine lv_istore (lv' := [(7, .int v), (6, .int cd), (0, .ref b), (1, .ref x), (2, .ref (x + 308)), (3, .ref (x + 316)), (4, .ref (x + 317)), (5, .int (nI (4 * N)))]) hx hb dL_law_307 hl (by decide) rfl (fun ls hl => ?_)
  refine lv_aload_n hx hb dL_law_309 rfl (lv_at hl 4 rfl) ?_
  refine lx_mi hS hOL hOD (va_runV (As := []) (rest := []) ⟨hx, hb, hml, hown, hts⟩ (k_X9_thrown l hT (x + 308) w_sh10 H.size _ _ _ hth) (cwV 0 hts (rc_gV tw_7_136 tw_7_137 tw_7_138 tw_1_14 tw_7_139) rfl rfl rfl (by decide +kernel) ⟨Nat.le_of_ble_eq_true rfl, Nat.le_of_ble_eq_true rfl⟩) (rc_preV hT hW hK hE hS w_sh10 (by decide) rfl (q := (RX9, TX9, 22)) rfl []) rfl rfl hl.1 rfl (lv_room (Nat.le_of_ble_eq_true rfl)) dL_law_310 ⟨by show cells + 1 + 0 + 0 ≤ 606338; omega, by show slots + 6 + 0 + 0 ≤ 7201315; omega⟩) (fun H locs hW hOL hOD hS => ?_)
  refine lv_iload hx hb dL_law_313 (lv_at hl 1 rfl) ?_
  refine lv_icmp_eq (tgt := 320) hx hb dL_law_315 (by decide) (fun _ => ?_) (fun c9 => absurd rfl c9)
  refine lv_iload hx hb dL_law_320 (lv_at hl 1 rfl) ?_
  refine lv_if_ne (tgt := 337) hx hb dL_law_322 (by decide) (fun c9 => ?_) (fun c9 => ?_)
  · refine lv_goto (tgt := 2344) hx hb dL_law_337 (by decide) ?_
    refine W.widen (k := cells + 3) (n := slots + 18) (by omega) (by omega) ?_
    exact kk _ _ _ ⟨σ2, fL, fD, hW, hI2, hOL, hOD⟩ hS (lv_sub hl [2, 3, 4, 5, 6, 7] rfl)
  · have hk0 : k = 0 := by rcases hcd with ⟨h1, h2⟩ | ⟨h1, h2⟩ <;> first | exact h1 | exact absurd (h2.symm.trans c9) (by decide)
    refine lv_aload_n hx hb dL_law_325 rfl (lv_at hl 5 rfl) ?_
    refine lv_iconst (v := 0) hx hb dL_law_326 (by decide) ?_
    refine lx_lald hx hb hK2 hOL dL_law_327 ?_
    refine lv_iload hx hb dL_law_328 (lv_at hl 0 rfl) ?_
    refine lv_i2l hx hb dL_law_330 rfl ?_
    refine W.lcmp hx hb dL_law_331 ?_
    refine lv_if_eq (tgt := 337) hx hb dL_law_332 (by decide) (fun _ => ?_) (fun c8 => absurd ((lg_cmp_eq _ _).mpr (by rw [hp hk0, hrv hk0])) c8)
    refine lv_goto (tgt := 2344) hx hb dL_law_337 (by decide) ?_
    refine W.widen (k := cells + 3) (n := slots + 18) (by omega) (by omega) ?_
    exact kk _ _ _ ⟨σ2, fL, fD, hW, hI2, hOL, hOD⟩ hS (lv_sub hl [2, 3, 4, 5, 6, 7] rfl)
set_option maxHeartbeats 4000000 in
set_option maxRecDepth 100000 in
theorem lc_takeAway : lx_case 340 := by
  intro p l e s m below meth c H locs cells slots Q ls Y x N b L xs dL dD hC hN hS hJ hl hc hs kk
  obtain ⟨hx, hb, hml, hown, hts, hX, hbl, hL, hxe, hYx, hK, hE, hK2, hK3, hNc, hl9⟩ := hC
  have hT : rc_T Y (w_sh x) (w_rf x) := w_T (Nat.le_of_eq hYx)
  obtain ⟨σ, fL, fD, hW, hI, hOL, hOD⟩ := hJ
  have hN9 : N ≤ 900 := by omega
  obtain ⟨k, r, σ1, cd, v, σ2, e1, e2, hcd, hcd2, hrv, hI2⟩ := i_takeAway w_X hN9 ((xs (4 * N + 1))) hI
  have hth : f_X9_thrown (w_rf x) (x + 308) σ2 = some (cd, σ2) := by rw [← hcd2]; rfl
  refine lv_aload_n hx hb dL_law_340 rfl (lv_at hl 1 rfl) ?_
  refine lv_aload_n hx hb dL_law_341 rfl (lv_at hl 0 rfl) ?_
  refine lv_iload hx hb dL_law_342 (lv_at hl 5 rfl) ?_
  refine lv_iconst (v := 1) hx hb dL_law_344 (by decide) ?_
  refine lv_iadd hx hb dL_law_345 ?_
  refine lx_sld hx hb hX hbl hxe hL hS (j := 4 * N + 1) (by omega) (nI_add (4 * N) 1) dL_law_346 ?_
  refine lv_aload_n hx hb dL_law_347 rfl (lv_at hl 3 rfl) ?_
  refine lx_wL hxe hS hOD (vx_runSW (As := [.ref x, .int (xs (4 * N + 1)), .ref (x + 316)]) (rest := []) ⟨hx, hb, hml, hown, hts⟩ (k_L_takeAway l hl9 hT x ((xs (4 * N + 1))) (x + 316) w_sh9 (w_sh0 (by omega)) dL fL H.size _ _ _ _ _ hcd e1) (vx_cwSW 3 hts (rc_gS tw_4_161 tw_4_162 tw_1_0 tw_4_163) rfl rfl rfl (by decide +kernel) ⟨Nat.le_of_ble_eq_true rfl, Nat.le_of_ble_eq_true rfl⟩) (lx_preL hT hW hK hE hS hOL hK2 hNc [.ref x, .int (xs (4 * N + 1)), .ref (x + 316)]) rfl rfl hl.1 rfl (lv_room (Nat.le_of_ble_eq_true rfl)) dL_law_348 ⟨by show cells + 1 ≤ 606338; omega, by show slots + 6 ≤ 7201315; omega⟩) (fun fL H locs hp hW hOL hOD hS => ?_)
  refine lv_istore (lv' := [(6, .int cd), (0, .ref b), (1, .ref x), (2, .ref (x + 308)), (3, .ref (x + 316)), (4, .ref (x + 317)), (5, .int (nI (4 * N)))]) hx hb dL_law_351 hl (by decide) rfl (fun ls hl => ?_)
  refine lv_aload_n hx hb dL_law_353 rfl (lv_at hl 3 rfl) ?_
  refine lv_aload_n hx hb dL_law_354 rfl (lv_at hl 1 rfl) ?_
  refine lv_iload hx hb dL_law_355 (lv_at hl 6 rfl) ?_
  refine lv_iconst (v := 1) hx hb dL_law_357 (by decide) ?_
  refine lv_iadd hx hb dL_law_358 ?_
  refine lx_sld hx hb hX hbl hxe hL hS (j := 4 * N + 1) (by omega) (nI_add (4 * N) 1) dL_law_359 ?_
  refine lx_mi hS hOL hOD (va_runV (As := [.int (xs (4 * N + 1))]) (rest := []) ⟨hx, hb, hml, hown, hts⟩ (k_X9_takeAway l hT (x + 308) ((xs (4 * N + 1))) w_sh10 H.size _ _ _ e2) (cwV 1 hts (rc_gV tw_7_203 tw_7_204 tw_7_205 tw_1_14 tw_7_206) rfl rfl rfl (by decide +kernel) ⟨Nat.le_of_ble_eq_true rfl, Nat.le_of_ble_eq_true rfl⟩) (rc_preV hT hW hK hE hS w_sh10 (by decide) rfl (q := (RX9, TX9, 22)) rfl [.int (xs (4 * N + 1))]) rfl rfl hl.1 rfl (lv_room (Nat.le_of_ble_eq_true rfl)) dL_law_360 ⟨by show cells + 1 + 0 ≤ 606338; omega, by show slots + 6 + 0 ≤ 7201315; omega⟩) (fun H locs hW hOL hOD hS => ?_)
  refine lv_istore (lv' := [(7, .int v), (6, .int cd), (0, .ref b), (1, .ref x), (2, .ref (x + 308)), (3, .ref (x + 316)), (4, .ref (x + 317)), (5, .int (nI (4 * N)))]) hx hb dL_law_363 hl (by decide) rfl (fun ls hl => ?_)
  refine lv_aload_n hx hb dL_law_365 rfl (lv_at hl 4 rfl) ?_
  refine lx_mi hS hOL hOD (va_runV (As := []) (rest := []) ⟨hx, hb, hml, hown, hts⟩ (k_X9_thrown l hT (x + 308) w_sh10 H.size _ _ _ hth) (cwV 0 hts (rc_gV tw_7_136 tw_7_137 tw_7_138 tw_1_14 tw_7_139) rfl rfl rfl (by decide +kernel) ⟨Nat.le_of_ble_eq_true rfl, Nat.le_of_ble_eq_true rfl⟩) (rc_preV hT hW hK hE hS w_sh10 (by decide) rfl (q := (RX9, TX9, 22)) rfl []) rfl rfl hl.1 rfl (lv_room (Nat.le_of_ble_eq_true rfl)) dL_law_366 ⟨by show cells + 1 + 0 + 0 ≤ 606338; omega, by show slots + 6 + 0 + 0 ≤ 7201315; omega⟩) (fun H locs hW hOL hOD hS => ?_)
  refine lv_iload hx hb dL_law_369 (lv_at hl 1 rfl) ?_
  refine lv_icmp_eq (tgt := 376) hx hb dL_law_371 (by decide) (fun _ => ?_) (fun c9 => absurd rfl c9)
  refine lv_iload hx hb dL_law_376 (lv_at hl 1 rfl) ?_
  refine lv_if_ne (tgt := 393) hx hb dL_law_378 (by decide) (fun c9 => ?_) (fun c9 => ?_)
  · refine lv_goto (tgt := 2344) hx hb dL_law_393 (by decide) ?_
    refine W.widen (k := cells + 3) (n := slots + 18) (by omega) (by omega) ?_
    exact kk _ _ _ ⟨σ2, fL, fD, hW, hI2, hOL, hOD⟩ hS (lv_sub hl [2, 3, 4, 5, 6, 7] rfl)
  · have hk0 : k = 0 := by rcases hcd with ⟨h1, h2⟩ | ⟨h1, h2⟩ <;> first | exact h1 | exact absurd (h2.symm.trans c9) (by decide)
    refine lv_aload_n hx hb dL_law_381 rfl (lv_at hl 5 rfl) ?_
    refine lv_iconst (v := 0) hx hb dL_law_382 (by decide) ?_
    refine lx_lald hx hb hK2 hOL dL_law_383 ?_
    refine lv_iload hx hb dL_law_384 (lv_at hl 0 rfl) ?_
    refine lv_i2l hx hb dL_law_386 rfl ?_
    refine W.lcmp hx hb dL_law_387 ?_
    refine lv_if_eq (tgt := 393) hx hb dL_law_388 (by decide) (fun _ => ?_) (fun c8 => absurd ((lg_cmp_eq _ _).mpr (by rw [hp hk0, hrv hk0])) c8)
    refine lv_goto (tgt := 2344) hx hb dL_law_393 (by decide) ?_
    refine W.widen (k := cells + 3) (n := slots + 18) (by omega) (by omega) ?_
    exact kk _ _ _ ⟨σ2, fL, fD, hW, hI2, hOL, hOD⟩ hS (lv_sub hl [2, 3, 4, 5, 6, 7] rfl)
set_option maxHeartbeats 4000000 in
set_option maxRecDepth 100000 in
theorem lc_pour : lx_case 396 := by
  intro p l e s m below meth c H locs cells slots Q ls Y x N b L xs dL dD hC hN hS hJ hl hc hs kk
  obtain ⟨hx, hb, hml, hown, hts, hX, hbl, hL, hxe, hYx, hK, hE, hK2, hK3, hNc, hl9⟩ := hC
  have hT : rc_T Y (w_sh x) (w_rf x) := w_T (Nat.le_of_eq hYx)
  obtain ⟨σ, fL, fD, hW, hI, hOL, hOD⟩ := hJ
  have hN9 : N ≤ 900 := by omega
  obtain ⟨k, r, σ1, cd, v, σ2, e1, e2, hcd, hcd2, hrv, hI2⟩ := i_pour w_X hN9 ((xs (4 * N + 1))) ((xs (4 * N + 2))) ((xs (4 * N + 3))) hI
  have hth : f_X9_thrown (w_rf x) (x + 308) σ2 = some (cd, σ2) := by rw [← hcd2]; rfl
  refine lv_aload_n hx hb dL_law_396 rfl (lv_at hl 1 rfl) ?_
  refine lv_aload_n hx hb dL_law_397 rfl (lv_at hl 0 rfl) ?_
  refine lv_iload hx hb dL_law_398 (lv_at hl 5 rfl) ?_
  refine lv_iconst (v := 1) hx hb dL_law_400 (by decide) ?_
  refine lv_iadd hx hb dL_law_401 ?_
  refine lx_sld hx hb hX hbl hxe hL hS (j := 4 * N + 1) (by omega) (nI_add (4 * N) 1) dL_law_402 ?_
  refine lv_aload_n hx hb dL_law_403 rfl (lv_at hl 0 rfl) ?_
  refine lv_iload hx hb dL_law_404 (lv_at hl 5 rfl) ?_
  refine lv_iconst (v := 2) hx hb dL_law_406 (by decide) ?_
  refine lv_iadd hx hb dL_law_407 ?_
  refine lx_sld hx hb hX hbl hxe hL hS (j := 4 * N + 2) (by omega) (nI_add (4 * N) 2) dL_law_408 ?_
  refine lv_aload_n hx hb dL_law_409 rfl (lv_at hl 0 rfl) ?_
  refine lv_iload hx hb dL_law_410 (lv_at hl 5 rfl) ?_
  refine lv_iconst (v := 3) hx hb dL_law_412 (by decide) ?_
  refine lv_iadd hx hb dL_law_413 ?_
  refine lx_sld hx hb hX hbl hxe hL hS (j := 4 * N + 3) (by omega) (nI_add (4 * N) 3) dL_law_414 ?_
  refine lv_aload_n hx hb dL_law_415 rfl (lv_at hl 3 rfl) ?_
  refine lx_wL hxe hS hOD (vx_runSW (As := [.ref x, .int (xs (4 * N + 1)), .int (xs (4 * N + 2)), .int (xs (4 * N + 3)), .ref (x + 316)]) (rest := []) ⟨hx, hb, hml, hown, hts⟩ (k_L_pour l hl9 hT x ((xs (4 * N + 1))) ((xs (4 * N + 2))) ((xs (4 * N + 3))) (x + 316) w_sh9 (w_sh0 (by omega)) dL fL H.size _ _ _ _ _ hcd e1) (vx_cwSW 5 hts (rc_gS tw_4_180 tw_4_181 tw_1_0 tw_4_182) rfl rfl rfl (by decide +kernel) ⟨Nat.le_of_ble_eq_true rfl, Nat.le_of_ble_eq_true rfl⟩) (lx_preL hT hW hK hE hS hOL hK2 hNc [.ref x, .int (xs (4 * N + 1)), .int (xs (4 * N + 2)), .int (xs (4 * N + 3)), .ref (x + 316)]) rfl rfl hl.1 rfl (lv_room (Nat.le_of_ble_eq_true rfl)) dL_law_416 ⟨by show cells + 1 ≤ 606338; omega, by show slots + 6 ≤ 7201315; omega⟩) (fun fL H locs hp hW hOL hOD hS => ?_)
  refine lv_istore (lv' := [(6, .int cd), (0, .ref b), (1, .ref x), (2, .ref (x + 308)), (3, .ref (x + 316)), (4, .ref (x + 317)), (5, .int (nI (4 * N)))]) hx hb dL_law_419 hl (by decide) rfl (fun ls hl => ?_)
  refine lv_aload_n hx hb dL_law_421 rfl (lv_at hl 3 rfl) ?_
  refine lv_aload_n hx hb dL_law_422 rfl (lv_at hl 1 rfl) ?_
  refine lv_iload hx hb dL_law_423 (lv_at hl 6 rfl) ?_
  refine lv_iconst (v := 1) hx hb dL_law_425 (by decide) ?_
  refine lv_iadd hx hb dL_law_426 ?_
  refine lx_sld hx hb hX hbl hxe hL hS (j := 4 * N + 1) (by omega) (nI_add (4 * N) 1) dL_law_427 ?_
  refine lv_aload_n hx hb dL_law_428 rfl (lv_at hl 1 rfl) ?_
  refine lv_iload hx hb dL_law_429 (lv_at hl 6 rfl) ?_
  refine lv_iconst (v := 2) hx hb dL_law_431 (by decide) ?_
  refine lv_iadd hx hb dL_law_432 ?_
  refine lx_sld hx hb hX hbl hxe hL hS (j := 4 * N + 2) (by omega) (nI_add (4 * N) 2) dL_law_433 ?_
  refine lv_aload_n hx hb dL_law_434 rfl (lv_at hl 1 rfl) ?_
  refine lv_iload hx hb dL_law_435 (lv_at hl 6 rfl) ?_
  refine lv_iconst (v := 3) hx hb dL_law_437 (by decide) ?_
  refine lv_iadd hx hb dL_law_438 ?_
  refine lx_sld hx hb hX hbl hxe hL hS (j := 4 * N + 3) (by omega) (nI_add (4 * N) 3) dL_law_439 ?_
  refine lx_mi hS hOL hOD (va_runV (As := [.int (xs (4 * N + 1)), .int (xs (4 * N + 2)), .int (xs (4 * N + 3))]) (rest := []) ⟨hx, hb, hml, hown, hts⟩ (k_X9_pour l hT (x + 308) ((xs (4 * N + 1))) ((xs (4 * N + 2))) ((xs (4 * N + 3))) w_sh10 H.size _ _ _ e2) (cwV 3 hts (rc_gV tw_7_215 tw_7_216 tw_7_217 tw_1_14 tw_7_218) rfl rfl rfl (by decide +kernel) ⟨Nat.le_of_ble_eq_true rfl, Nat.le_of_ble_eq_true rfl⟩) (rc_preV hT hW hK hE hS w_sh10 (by decide) rfl (q := (RX9, TX9, 22)) rfl [.int (xs (4 * N + 1)), .int (xs (4 * N + 2)), .int (xs (4 * N + 3))]) rfl rfl hl.1 rfl (lv_room (Nat.le_of_ble_eq_true rfl)) dL_law_440 ⟨by show cells + 1 + 0 ≤ 606338; omega, by show slots + 6 + 0 ≤ 7201315; omega⟩) (fun H locs hW hOL hOD hS => ?_)
  refine lv_istore (lv' := [(7, .int v), (6, .int cd), (0, .ref b), (1, .ref x), (2, .ref (x + 308)), (3, .ref (x + 316)), (4, .ref (x + 317)), (5, .int (nI (4 * N)))]) hx hb dL_law_443 hl (by decide) rfl (fun ls hl => ?_)
  refine lv_aload_n hx hb dL_law_445 rfl (lv_at hl 4 rfl) ?_
  refine lx_mi hS hOL hOD (va_runV (As := []) (rest := []) ⟨hx, hb, hml, hown, hts⟩ (k_X9_thrown l hT (x + 308) w_sh10 H.size _ _ _ hth) (cwV 0 hts (rc_gV tw_7_136 tw_7_137 tw_7_138 tw_1_14 tw_7_139) rfl rfl rfl (by decide +kernel) ⟨Nat.le_of_ble_eq_true rfl, Nat.le_of_ble_eq_true rfl⟩) (rc_preV hT hW hK hE hS w_sh10 (by decide) rfl (q := (RX9, TX9, 22)) rfl []) rfl rfl hl.1 rfl (lv_room (Nat.le_of_ble_eq_true rfl)) dL_law_446 ⟨by show cells + 1 + 0 + 0 ≤ 606338; omega, by show slots + 6 + 0 + 0 ≤ 7201315; omega⟩) (fun H locs hW hOL hOD hS => ?_)
  refine lv_iload hx hb dL_law_449 (lv_at hl 1 rfl) ?_
  refine lv_icmp_eq (tgt := 456) hx hb dL_law_451 (by decide) (fun _ => ?_) (fun c9 => absurd rfl c9)
  refine lv_iload hx hb dL_law_456 (lv_at hl 1 rfl) ?_
  refine lv_if_ne (tgt := 473) hx hb dL_law_458 (by decide) (fun c9 => ?_) (fun c9 => ?_)
  · refine lv_goto (tgt := 2344) hx hb dL_law_473 (by decide) ?_
    refine W.widen (k := cells + 3) (n := slots + 18) (by omega) (by omega) ?_
    exact kk _ _ _ ⟨σ2, fL, fD, hW, hI2, hOL, hOD⟩ hS (lv_sub hl [2, 3, 4, 5, 6, 7] rfl)
  · have hk0 : k = 0 := by rcases hcd with ⟨h1, h2⟩ | ⟨h1, h2⟩ <;> first | exact h1 | exact absurd (h2.symm.trans c9) (by decide)
    refine lv_aload_n hx hb dL_law_461 rfl (lv_at hl 5 rfl) ?_
    refine lv_iconst (v := 0) hx hb dL_law_462 (by decide) ?_
    refine lx_lald hx hb hK2 hOL dL_law_463 ?_
    refine lv_iload hx hb dL_law_464 (lv_at hl 0 rfl) ?_
    refine lv_i2l hx hb dL_law_466 rfl ?_
    refine W.lcmp hx hb dL_law_467 ?_
    refine lv_if_eq (tgt := 473) hx hb dL_law_468 (by decide) (fun _ => ?_) (fun c8 => absurd ((lg_cmp_eq _ _).mpr (by rw [hp hk0, hrv hk0])) c8)
    refine lv_goto (tgt := 2344) hx hb dL_law_473 (by decide) ?_
    refine W.widen (k := cells + 3) (n := slots + 18) (by omega) (by omega) ?_
    exact kk _ _ _ ⟨σ2, fL, fD, hW, hI2, hOL, hOD⟩ hS (lv_sub hl [2, 3, 4, 5, 6, 7] rfl)
set_option maxHeartbeats 4000000 in
set_option maxRecDepth 100000 in
theorem lc_hail : lx_case 476 := by
  intro p l e s m below meth c H locs cells slots Q ls Y x N b L xs dL dD hC hN hS hJ hl hc hs kk
  obtain ⟨hx, hb, hml, hown, hts, hX, hbl, hL, hxe, hYx, hK, hE, hK2, hK3, hNc, hl9⟩ := hC
  have hT : rc_T Y (w_sh x) (w_rf x) := w_T (Nat.le_of_eq hYx)
  obtain ⟨σ, fL, fD, hW, hI, hOL, hOD⟩ := hJ
  have hN9 : N ≤ 900 := by omega
  obtain ⟨k, r, σ1, cd, v, σ2, e1, e2, hcd, hcd2, hrv, hI2⟩ := i_hail w_X hN9 ((xs (4 * N + 1))) ((xs (4 * N + 2))) hI
  have hth : f_X9_thrown (w_rf x) (x + 308) σ2 = some (cd, σ2) := by rw [← hcd2]; rfl
  refine lv_aload_n hx hb dL_law_476 rfl (lv_at hl 1 rfl) ?_
  refine lv_aload_n hx hb dL_law_477 rfl (lv_at hl 0 rfl) ?_
  refine lv_iload hx hb dL_law_478 (lv_at hl 5 rfl) ?_
  refine lv_iconst (v := 1) hx hb dL_law_480 (by decide) ?_
  refine lv_iadd hx hb dL_law_481 ?_
  refine lx_sld hx hb hX hbl hxe hL hS (j := 4 * N + 1) (by omega) (nI_add (4 * N) 1) dL_law_482 ?_
  refine lv_aload_n hx hb dL_law_483 rfl (lv_at hl 0 rfl) ?_
  refine lv_iload hx hb dL_law_484 (lv_at hl 5 rfl) ?_
  refine lv_iconst (v := 2) hx hb dL_law_486 (by decide) ?_
  refine lv_iadd hx hb dL_law_487 ?_
  refine lx_sld hx hb hX hbl hxe hL hS (j := 4 * N + 2) (by omega) (nI_add (4 * N) 2) dL_law_488 ?_
  refine lv_aload_n hx hb dL_law_489 rfl (lv_at hl 3 rfl) ?_
  refine lx_wL hxe hS hOD (vx_runSW (As := [.ref x, .int (xs (4 * N + 1)), .int (xs (4 * N + 2)), .ref (x + 316)]) (rest := []) ⟨hx, hb, hml, hown, hts⟩ (k_L_hail l hl9 hT x ((xs (4 * N + 1))) ((xs (4 * N + 2))) (x + 316) w_sh9 (w_sh0 (by omega)) dL fL H.size _ _ _ _ _ hcd e1) (vx_cwSW 4 hts (rc_gS tw_4_222 tw_4_223 tw_1_0 tw_4_224) rfl rfl rfl (by decide +kernel) ⟨Nat.le_of_ble_eq_true rfl, Nat.le_of_ble_eq_true rfl⟩) (lx_preL hT hW hK hE hS hOL hK2 hNc [.ref x, .int (xs (4 * N + 1)), .int (xs (4 * N + 2)), .ref (x + 316)]) rfl rfl hl.1 rfl (lv_room (Nat.le_of_ble_eq_true rfl)) dL_law_490 ⟨by show cells + 1 ≤ 606338; omega, by show slots + 6 ≤ 7201315; omega⟩) (fun fL H locs hp hW hOL hOD hS => ?_)
  refine lv_istore (lv' := [(6, .int cd), (0, .ref b), (1, .ref x), (2, .ref (x + 308)), (3, .ref (x + 316)), (4, .ref (x + 317)), (5, .int (nI (4 * N)))]) hx hb dL_law_493 hl (by decide) rfl (fun ls hl => ?_)
  refine lv_aload_n hx hb dL_law_495 rfl (lv_at hl 3 rfl) ?_
  refine lv_aload_n hx hb dL_law_496 rfl (lv_at hl 1 rfl) ?_
  refine lv_iload hx hb dL_law_497 (lv_at hl 6 rfl) ?_
  refine lv_iconst (v := 1) hx hb dL_law_499 (by decide) ?_
  refine lv_iadd hx hb dL_law_500 ?_
  refine lx_sld hx hb hX hbl hxe hL hS (j := 4 * N + 1) (by omega) (nI_add (4 * N) 1) dL_law_501 ?_
  refine lv_aload_n hx hb dL_law_502 rfl (lv_at hl 1 rfl) ?_
  refine lv_iload hx hb dL_law_503 (lv_at hl 6 rfl) ?_
  refine lv_iconst (v := 2) hx hb dL_law_505 (by decide) ?_
  refine lv_iadd hx hb dL_law_506 ?_
  refine lx_sld hx hb hX hbl hxe hL hS (j := 4 * N + 2) (by omega) (nI_add (4 * N) 2) dL_law_507 ?_
  refine lx_mi hS hOL hOD (va_runV (As := [.int (xs (4 * N + 1)), .int (xs (4 * N + 2))]) (rest := []) ⟨hx, hb, hml, hown, hts⟩ (k_X9_hail l hT (x + 308) ((xs (4 * N + 1))) ((xs (4 * N + 2))) w_sh10 H.size _ _ _ e2) (cwV 2 hts (rc_gV tw_7_238 tw_7_239 tw_8_0 tw_1_14 tw_8_1) rfl rfl rfl (by decide +kernel) ⟨Nat.le_of_ble_eq_true rfl, Nat.le_of_ble_eq_true rfl⟩) (rc_preV hT hW hK hE hS w_sh10 (by decide) rfl (q := (RX9, TX9, 22)) rfl [.int (xs (4 * N + 1)), .int (xs (4 * N + 2))]) rfl rfl hl.1 rfl (lv_room (Nat.le_of_ble_eq_true rfl)) dL_law_508 ⟨by show cells + 1 + 0 ≤ 606338; omega, by show slots + 6 + 0 ≤ 7201315; omega⟩) (fun H locs hW hOL hOD hS => ?_)
  refine lv_istore (lv' := [(7, .int v), (6, .int cd), (0, .ref b), (1, .ref x), (2, .ref (x + 308)), (3, .ref (x + 316)), (4, .ref (x + 317)), (5, .int (nI (4 * N)))]) hx hb dL_law_511 hl (by decide) rfl (fun ls hl => ?_)
  refine lv_aload_n hx hb dL_law_513 rfl (lv_at hl 4 rfl) ?_
  refine lx_mi hS hOL hOD (va_runV (As := []) (rest := []) ⟨hx, hb, hml, hown, hts⟩ (k_X9_thrown l hT (x + 308) w_sh10 H.size _ _ _ hth) (cwV 0 hts (rc_gV tw_7_136 tw_7_137 tw_7_138 tw_1_14 tw_7_139) rfl rfl rfl (by decide +kernel) ⟨Nat.le_of_ble_eq_true rfl, Nat.le_of_ble_eq_true rfl⟩) (rc_preV hT hW hK hE hS w_sh10 (by decide) rfl (q := (RX9, TX9, 22)) rfl []) rfl rfl hl.1 rfl (lv_room (Nat.le_of_ble_eq_true rfl)) dL_law_514 ⟨by show cells + 1 + 0 + 0 ≤ 606338; omega, by show slots + 6 + 0 + 0 ≤ 7201315; omega⟩) (fun H locs hW hOL hOD hS => ?_)
  refine lv_iload hx hb dL_law_517 (lv_at hl 1 rfl) ?_
  refine lv_icmp_eq (tgt := 524) hx hb dL_law_519 (by decide) (fun _ => ?_) (fun c9 => absurd rfl c9)
  refine lv_iload hx hb dL_law_524 (lv_at hl 1 rfl) ?_
  refine lv_if_ne (tgt := 541) hx hb dL_law_526 (by decide) (fun c9 => ?_) (fun c9 => ?_)
  · refine lv_goto (tgt := 2344) hx hb dL_law_541 (by decide) ?_
    refine W.widen (k := cells + 3) (n := slots + 18) (by omega) (by omega) ?_
    exact kk _ _ _ ⟨σ2, fL, fD, hW, hI2, hOL, hOD⟩ hS (lv_sub hl [2, 3, 4, 5, 6, 7] rfl)
  · have hk0 : k = 0 := by rcases hcd with ⟨h1, h2⟩ | ⟨h1, h2⟩ <;> first | exact h1 | exact absurd (h2.symm.trans c9) (by decide)
    refine lv_aload_n hx hb dL_law_529 rfl (lv_at hl 5 rfl) ?_
    refine lv_iconst (v := 0) hx hb dL_law_530 (by decide) ?_
    refine lx_lald hx hb hK2 hOL dL_law_531 ?_
    refine lv_iload hx hb dL_law_532 (lv_at hl 0 rfl) ?_
    refine lv_i2l hx hb dL_law_534 rfl ?_
    refine W.lcmp hx hb dL_law_535 ?_
    refine lv_if_eq (tgt := 541) hx hb dL_law_536 (by decide) (fun _ => ?_) (fun c8 => absurd ((lg_cmp_eq _ _).mpr (by rw [hp hk0, hrv hk0])) c8)
    refine lv_goto (tgt := 2344) hx hb dL_law_541 (by decide) ?_
    refine W.widen (k := cells + 3) (n := slots + 18) (by omega) (by omega) ?_
    exact kk _ _ _ ⟨σ2, fL, fD, hW, hI2, hOL, hOD⟩ hS (lv_sub hl [2, 3, 4, 5, 6, 7] rfl)
set_option maxHeartbeats 4000000 in
set_option maxRecDepth 100000 in
theorem lc_sommelier : lx_case 544 := by
  intro p l e s m below meth c H locs cells slots Q ls Y x N b L xs dL dD hC hN hS hJ hl hc hs kk
  obtain ⟨hx, hb, hml, hown, hts, hX, hbl, hL, hxe, hYx, hK, hE, hK2, hK3, hNc, hl9⟩ := hC
  have hT : rc_T Y (w_sh x) (w_rf x) := w_T (Nat.le_of_eq hYx)
  obtain ⟨σ, fL, fD, hW, hI, hOL, hOD⟩ := hJ
  have hN9 : N ≤ 900 := by omega
  obtain ⟨k, r, σ1, cd, v, σ2, e1, e2, hcd, hcd2, hrv, hI2⟩ := i_sommelier w_X hN9 ((xs (4 * N + 1))) ((if (xs (4 * N + 2)) = 0 then 0 else 1)) (lx_01 _) hI
  have hth : f_X9_thrown (w_rf x) (x + 308) σ2 = some (cd, σ2) := by rw [← hcd2]; rfl
  refine lv_aload_n hx hb dL_law_544 rfl (lv_at hl 1 rfl) ?_
  refine lv_aload_n hx hb dL_law_545 rfl (lv_at hl 0 rfl) ?_
  refine lv_iload hx hb dL_law_546 (lv_at hl 5 rfl) ?_
  refine lv_iconst (v := 1) hx hb dL_law_548 (by decide) ?_
  refine lv_iadd hx hb dL_law_549 ?_
  refine lx_sld hx hb hX hbl hxe hL hS (j := 4 * N + 1) (by omega) (nI_add (4 * N) 1) dL_law_550 ?_
  refine lv_aload_n hx hb dL_law_551 rfl (lv_at hl 0 rfl) ?_
  refine lv_iload hx hb dL_law_552 (lv_at hl 5 rfl) ?_
  refine lv_iconst (v := 2) hx hb dL_law_554 (by decide) ?_
  refine lv_iadd hx hb dL_law_555 ?_
  refine lx_sld hx hb hX hbl hxe hL hS (j := 4 * N + 2) (by omega) (nI_add (4 * N) 2) dL_law_556 ?_
  refine lx_b01 hx hb dL_law_557 dL_law_560 dL_law_561 dL_law_564 ?_
  refine lv_aload_n hx hb dL_law_565 rfl (lv_at hl 3 rfl) ?_
  refine lx_wL hxe hS hOD (vx_runSW (As := [.ref x, .int (xs (4 * N + 1)), .int (if (xs (4 * N + 2)) = 0 then 0 else 1), .ref (x + 316)]) (rest := []) ⟨hx, hb, hml, hown, hts⟩ (k_L_sommelier l hl9 hT x ((xs (4 * N + 1))) ((if (xs (4 * N + 2)) = 0 then 0 else 1)) (x + 316) w_sh9 (w_sh0 (by omega)) dL fL H.size _ _ _ _ _ hcd e1) (vx_cwSW 4 hts (rc_gS tw_4_234 tw_4_235 tw_1_0 tw_4_236) rfl rfl rfl (by decide +kernel) ⟨Nat.le_of_ble_eq_true rfl, Nat.le_of_ble_eq_true rfl⟩) (lx_preL hT hW hK hE hS hOL hK2 hNc [.ref x, .int (xs (4 * N + 1)), .int (if (xs (4 * N + 2)) = 0 then 0 else 1), .ref (x + 316)]) rfl rfl hl.1 rfl (lv_room (Nat.le_of_ble_eq_true rfl)) dL_law_566 ⟨by show cells + 1 ≤ 606338; omega, by show slots + 6 ≤ 7201315; omega⟩) (fun fL H locs hp hW hOL hOD hS => ?_)
  refine lv_istore (lv' := [(6, .int cd), (0, .ref b), (1, .ref x), (2, .ref (x + 308)), (3, .ref (x + 316)), (4, .ref (x + 317)), (5, .int (nI (4 * N)))]) hx hb dL_law_569 hl (by decide) rfl (fun ls hl => ?_)
  refine lv_aload_n hx hb dL_law_571 rfl (lv_at hl 3 rfl) ?_
  refine lv_aload_n hx hb dL_law_572 rfl (lv_at hl 1 rfl) ?_
  refine lv_iload hx hb dL_law_573 (lv_at hl 6 rfl) ?_
  refine lv_iconst (v := 1) hx hb dL_law_575 (by decide) ?_
  refine lv_iadd hx hb dL_law_576 ?_
  refine lx_sld hx hb hX hbl hxe hL hS (j := 4 * N + 1) (by omega) (nI_add (4 * N) 1) dL_law_577 ?_
  refine lv_aload_n hx hb dL_law_578 rfl (lv_at hl 1 rfl) ?_
  refine lv_iload hx hb dL_law_579 (lv_at hl 6 rfl) ?_
  refine lv_iconst (v := 2) hx hb dL_law_581 (by decide) ?_
  refine lv_iadd hx hb dL_law_582 ?_
  refine lx_sld hx hb hX hbl hxe hL hS (j := 4 * N + 2) (by omega) (nI_add (4 * N) 2) dL_law_583 ?_
  refine lx_b01 hx hb dL_law_584 dL_law_587 dL_law_588 dL_law_591 ?_
  refine lx_mi hS hOL hOD (va_runV (As := [.int (xs (4 * N + 1)), .int (if (xs (4 * N + 2)) = 0 then 0 else 1)]) (rest := []) ⟨hx, hb, hml, hown, hts⟩ (k_X9_sommelier l hT (x + 308) ((xs (4 * N + 1))) ((if (xs (4 * N + 2)) = 0 then 0 else 1)) w_sh10 H.size _ _ _ e2) (cwV 2 hts (rc_gV tw_8_6 tw_8_7 tw_8_8 tw_1_14 tw_8_9) rfl rfl rfl (by decide +kernel) ⟨Nat.le_of_ble_eq_true rfl, Nat.le_of_ble_eq_true rfl⟩) (rc_preV hT hW hK hE hS w_sh10 (by decide) rfl (q := (RX9, TX9, 22)) rfl [.int (xs (4 * N + 1)), .int (if (xs (4 * N + 2)) = 0 then 0 else 1)]) rfl rfl hl.1 rfl (lv_room (Nat.le_of_ble_eq_true rfl)) dL_law_592 ⟨by show cells + 1 + 0 ≤ 606338; omega, by show slots + 6 + 0 ≤ 7201315; omega⟩) (fun H locs hW hOL hOD hS => ?_)
  refine lv_istore (lv' := [(7, .int v), (6, .int cd), (0, .ref b), (1, .ref x), (2, .ref (x + 308)), (3, .ref (x + 316)), (4, .ref (x + 317)), (5, .int (nI (4 * N)))]) hx hb dL_law_595 hl (by decide) rfl (fun ls hl => ?_)
  refine lv_aload_n hx hb dL_law_597 rfl (lv_at hl 4 rfl) ?_
  refine lx_mi hS hOL hOD (va_runV (As := []) (rest := []) ⟨hx, hb, hml, hown, hts⟩ (k_X9_thrown l hT (x + 308) w_sh10 H.size _ _ _ hth) (cwV 0 hts (rc_gV tw_7_136 tw_7_137 tw_7_138 tw_1_14 tw_7_139) rfl rfl rfl (by decide +kernel) ⟨Nat.le_of_ble_eq_true rfl, Nat.le_of_ble_eq_true rfl⟩) (rc_preV hT hW hK hE hS w_sh10 (by decide) rfl (q := (RX9, TX9, 22)) rfl []) rfl rfl hl.1 rfl (lv_room (Nat.le_of_ble_eq_true rfl)) dL_law_598 ⟨by show cells + 1 + 0 + 0 ≤ 606338; omega, by show slots + 6 + 0 + 0 ≤ 7201315; omega⟩) (fun H locs hW hOL hOD hS => ?_)
  refine lv_iload hx hb dL_law_601 (lv_at hl 1 rfl) ?_
  refine lv_icmp_eq (tgt := 608) hx hb dL_law_603 (by decide) (fun _ => ?_) (fun c9 => absurd rfl c9)
  refine lv_iload hx hb dL_law_608 (lv_at hl 1 rfl) ?_
  refine lv_if_ne (tgt := 625) hx hb dL_law_610 (by decide) (fun c9 => ?_) (fun c9 => ?_)
  · refine lv_goto (tgt := 2344) hx hb dL_law_625 (by decide) ?_
    refine W.widen (k := cells + 3) (n := slots + 18) (by omega) (by omega) ?_
    exact kk _ _ _ ⟨σ2, fL, fD, hW, hI2, hOL, hOD⟩ hS (lv_sub hl [2, 3, 4, 5, 6, 7] rfl)
  · have hk0 : k = 0 := by rcases hcd with ⟨h1, h2⟩ | ⟨h1, h2⟩ <;> first | exact h1 | exact absurd (h2.symm.trans c9) (by decide)
    refine lv_aload_n hx hb dL_law_613 rfl (lv_at hl 5 rfl) ?_
    refine lv_iconst (v := 0) hx hb dL_law_614 (by decide) ?_
    refine lx_lald hx hb hK2 hOL dL_law_615 ?_
    refine lv_iload hx hb dL_law_616 (lv_at hl 0 rfl) ?_
    refine lv_i2l hx hb dL_law_618 rfl ?_
    refine W.lcmp hx hb dL_law_619 ?_
    refine lv_if_eq (tgt := 625) hx hb dL_law_620 (by decide) (fun _ => ?_) (fun c8 => absurd ((lg_cmp_eq _ _).mpr (by rw [hp hk0, hrv hk0])) c8)
    refine lv_goto (tgt := 2344) hx hb dL_law_625 (by decide) ?_
    refine W.widen (k := cells + 3) (n := slots + 18) (by omega) (by omega) ?_
    exact kk _ _ _ ⟨σ2, fL, fD, hW, hI2, hOL, hOD⟩ hS (lv_sub hl [2, 3, 4, 5, 6, 7] rfl)
