set_option maxHeartbeats 4000000 in
set_option maxRecDepth 100000 in
theorem lc_undo : lx_case 2243 := by
  intro p l e s m below meth c H locs cells slots Q ls Y x N b L xs dL dD hC hN hS hJ hl hc hs kk
  obtain ⟨hx, hb, hml, hown, hts, hX, hbl, hL, hxe, hYx, hK, hE, hK2, hK3, hNc, hl9⟩ := hC
  have hT : rc_T Y (w_sh x) (w_rf x) := w_T (Nat.le_of_eq hYx)
  obtain ⟨σ, fL, fD, hW, hI, hOL, hOD⟩ := hJ
  have hN9 : N ≤ 900 := by omega
  obtain ⟨k, r, σ1, cd, v, σ2, e1, e2, hcd, hcd2, hrv, hI2⟩ := i_undo w_X hN9  hI
  have hth : f_X9_thrown (w_rf x) (x + 308) σ2 = some (cd, σ2) := by rw [← hcd2]; rfl
  refine lv_aload_n hx hb dL_law_2243 rfl (lv_at hl 1 rfl) ?_
  refine lv_aload_n hx hb dL_law_2244 rfl (lv_at hl 3 rfl) ?_
  refine lx_wL hxe hS hOD (vx_runSW (As := [.ref x, .ref (x + 316)]) (rest := []) ⟨hx, hb, hml, hown, hts⟩ (k_L_undo l hl9 hT x (x + 316) w_sh9 (w_sh0 (by omega)) dL fL H.size _ _ _ _ _ hcd e1) (vx_cwSW 2 hts (rc_gS tw_7_41 tw_7_42 tw_1_0 tw_7_43) rfl rfl rfl (by decide +kernel) ⟨Nat.le_of_ble_eq_true rfl, Nat.le_of_ble_eq_true rfl⟩) (lx_preL hT hW hK hE hS hOL hK2 hNc [.ref x, .ref (x + 316)]) rfl rfl hl.1 rfl (lv_room (Nat.le_of_ble_eq_true rfl)) dL_law_2245 ⟨by show cells + 1 ≤ 606338; omega, by show slots + 6 ≤ 7201315; omega⟩) (fun fL H locs hp hW hOL hOD hS => ?_)
  refine lv_istore (lv' := [(6, .int cd), (0, .ref b), (1, .ref x), (2, .ref (x + 308)), (3, .ref (x + 316)), (4, .ref (x + 317)), (5, .int (nI (4 * N)))]) hx hb dL_law_2248 hl (by decide) rfl (fun ls hl => ?_)
  refine lv_aload_n hx hb dL_law_2250 rfl (lv_at hl 3 rfl) ?_
  refine lx_mi hS hOL hOD (va_runV (As := []) (rest := []) ⟨hx, hb, hml, hown, hts⟩ (k_X9_undo l hT (x + 308) w_sh10 H.size _ _ _ e2) (cwV 0 hts (rc_gV tw_8_217 tw_8_218 tw_8_219 tw_1_14 tw_8_220) rfl rfl rfl (by decide +kernel) ⟨Nat.le_of_ble_eq_true rfl, Nat.le_of_ble_eq_true rfl⟩) (rc_preV hT hW hK hE hS w_sh10 (by decide) rfl (q := (RX9, TX9, 22)) rfl []) rfl rfl hl.1 rfl (lv_room (Nat.le_of_ble_eq_true rfl)) dL_law_2251 ⟨by show cells + 1 + 0 ≤ 606338; omega, by show slots + 6 + 0 ≤ 7201315; omega⟩) (fun H locs hW hOL hOD hS => ?_)
  refine lv_istore (lv' := [(7, .int v), (6, .int cd), (0, .ref b), (1, .ref x), (2, .ref (x + 308)), (3, .ref (x + 316)), (4, .ref (x + 317)), (5, .int (nI (4 * N)))]) hx hb dL_law_2254 hl (by decide) rfl (fun ls hl => ?_)
  refine lv_aload_n hx hb dL_law_2256 rfl (lv_at hl 4 rfl) ?_
  refine lx_mi hS hOL hOD (va_runV (As := []) (rest := []) ⟨hx, hb, hml, hown, hts⟩ (k_X9_thrown l hT (x + 308) w_sh10 H.size _ _ _ hth) (cwV 0 hts (rc_gV tw_7_136 tw_7_137 tw_7_138 tw_1_14 tw_7_139) rfl rfl rfl (by decide +kernel) ⟨Nat.le_of_ble_eq_true rfl, Nat.le_of_ble_eq_true rfl⟩) (rc_preV hT hW hK hE hS w_sh10 (by decide) rfl (q := (RX9, TX9, 22)) rfl []) rfl rfl hl.1 rfl (lv_room (Nat.le_of_ble_eq_true rfl)) dL_law_2257 ⟨by show cells + 1 + 0 + 0 ≤ 606338; omega, by show slots + 6 + 0 + 0 ≤ 7201315; omega⟩) (fun H locs hW hOL hOD hS => ?_)
  refine lv_iload hx hb dL_law_2260 (lv_at hl 1 rfl) ?_
  refine lv_icmp_eq (tgt := 2267) hx hb dL_law_2262 (by decide) (fun _ => ?_) (fun c9 => absurd rfl c9)
  refine lv_iload hx hb dL_law_2267 (lv_at hl 1 rfl) ?_
  refine lv_if_ne (tgt := 2284) hx hb dL_law_2269 (by decide) (fun c9 => ?_) (fun c9 => ?_)
  · refine lv_goto (tgt := 2344) hx hb dL_law_2284 (by decide) ?_
    refine W.widen (k := cells + 3) (n := slots + 18) (by omega) (by omega) ?_
    exact kk _ _ _ ⟨σ2, fL, fD, hW, hI2, hOL, hOD⟩ hS (lv_sub hl [2, 3, 4, 5, 6, 7] rfl)
  · have hk0 : k = 0 := by rcases hcd with ⟨h1, h2⟩ | ⟨h1, h2⟩ <;> first | exact h1 | exact absurd (h2.symm.trans c9) (by decide)
    refine lv_aload_n hx hb dL_law_2272 rfl (lv_at hl 5 rfl) ?_
    refine lv_iconst (v := 0) hx hb dL_law_2273 (by decide) ?_
    refine lx_lald hx hb hK2 hOL dL_law_2274 ?_
    refine lv_iload hx hb dL_law_2275 (lv_at hl 0 rfl) ?_
    refine lv_i2l hx hb dL_law_2277 rfl ?_
    refine W.lcmp hx hb dL_law_2278 ?_
    refine lv_if_eq (tgt := 2284) hx hb dL_law_2279 (by decide) (fun _ => ?_) (fun c8 => absurd ((lg_cmp_eq _ _).mpr (by rw [hp hk0, hrv hk0])) c8)
    refine lv_goto (tgt := 2344) hx hb dL_law_2284 (by decide) ?_
    refine W.widen (k := cells + 3) (n := slots + 18) (by omega) (by omega) ?_
    exact kk _ _ _ ⟨σ2, fL, fD, hW, hI2, hOL, hOD⟩ hS (lv_sub hl [2, 3, 4, 5, 6, 7] rfl)
set_option maxHeartbeats 4000000 in
set_option maxRecDepth 100000 in
theorem lc_save : lx_case 2287 := by
  intro p l e s m below meth c H locs cells slots Q ls Y x N b L xs dL dD hC hN hS hJ hl hc hs kk
  obtain ⟨hx, hb, hml, hown, hts, hX, hbl, hL, hxe, hYx, hK, hE, hK2, hK3, hNc, hl9⟩ := hC
  have hT : rc_T Y (w_sh x) (w_rf x) := w_T (Nat.le_of_eq hYx)
  obtain ⟨σ, fL, fD, hW, hI, hOL, hOD⟩ := hJ
  have hN9 : N ≤ 900 := by omega
  obtain ⟨r, σ1, σ2, e1, e2, hI2⟩ := i_save w_X hN9 hI
  refine lv_aload_n hx hb dL_law_2287 rfl (lv_at hl 1 rfl) ?_
  refine lx_mi hS hOL hOD (va_runV (As := []) (rest := []) ⟨hx, hb, hml, hown, hts⟩ (k_X8_save l hT x w_sh9 H.size _ _ _ e1) (cwV 0 hts (rc_gV tw_4_68 tw_4_69 tw_4_70 tw_1_1 tw_4_71) rfl rfl rfl (by decide +kernel) ⟨Nat.le_of_ble_eq_true rfl, Nat.le_of_ble_eq_true rfl⟩) (rc_preV hT hW hK hE hS w_sh9 (by decide) rfl (q := (RX8, TX8, 9)) rfl []) rfl rfl hl.1 rfl (lv_room (Nat.le_of_ble_eq_true rfl)) dL_law_2288 ⟨by show cells + 0 ≤ 606338; omega, by show slots + 0 ≤ 7201315; omega⟩) (fun H locs hW hOL hOD hS => ?_)
  refine lv_aload_n hx hb dL_law_2291 rfl (lv_at hl 2 rfl) ?_
  refine lx_mi hS hOL hOD (va_runV (As := []) (rest := [.int r]) ⟨hx, hb, hml, hown, hts⟩ (k_X9_save l hT (x + 308) w_sh10 H.size _ _ _ e2) (cwV 0 hts (rc_gV tw_8_221 tw_8_222 tw_8_223 tw_1_14 tw_8_224) rfl rfl rfl (by decide +kernel) ⟨Nat.le_of_ble_eq_true rfl, Nat.le_of_ble_eq_true rfl⟩) (rc_preV hT hW hK hE hS w_sh10 (by decide) rfl (q := (RX9, TX9, 22)) rfl []) rfl rfl hl.1 rfl (lv_room (Nat.le_of_ble_eq_true rfl)) dL_law_2292 ⟨by show cells + 0 + 0 ≤ 606338; omega, by show slots + 0 + 0 ≤ 7201315; omega⟩) (fun H locs hW hOL hOD hS => ?_)
  refine lv_icmp_eq (tgt := 2344) hx hb dL_law_2295 (by decide) (fun _ => ?_) (fun c9 => absurd rfl c9)
  refine W.widen (k := cells + 3) (n := slots + 18) (by omega) (by omega) ?_
  exact kk _ _ _ ⟨σ2, fL, fD, hW, hI2, hOL, hOD⟩ hS (lv_sub hl [0, 1, 2, 3, 4, 5] rfl)
set_option maxHeartbeats 4000000 in
set_option maxRecDepth 100000 in
theorem lc_restore : lx_case 2300 := by
  intro p l e s m below meth c H locs cells slots Q ls Y x N b L xs dL dD hC hN hS hJ hl hc hs kk
  obtain ⟨hx, hb, hml, hown, hts, hX, hbl, hL, hxe, hYx, hK, hE, hK2, hK3, hNc, hl9⟩ := hC
  have hT : rc_T Y (w_sh x) (w_rf x) := w_T (Nat.le_of_eq hYx)
  obtain ⟨σ, fL, fD, hW, hI, hOL, hOD⟩ := hJ
  have hN9 : N ≤ 900 := by omega
  obtain ⟨k, r, σ1, cd, v, σ2, e1, e2, hcd, hcd2, hrv, hI2⟩ := i_restore w_X hN9  hI
  have hth : f_X9_thrown (w_rf x) (x + 308) σ2 = some (cd, σ2) := by rw [← hcd2]; rfl
  refine lv_aload_n hx hb dL_law_2300 rfl (lv_at hl 1 rfl) ?_
  refine lv_aload_n hx hb dL_law_2301 rfl (lv_at hl 3 rfl) ?_
  refine lx_wL hxe hS hOD (vx_runSW (As := [.ref x, .ref (x + 316)]) (rest := []) ⟨hx, hb, hml, hown, hts⟩ (k_L_restore l hl9 hT x (x + 316) w_sh9 (w_sh0 (by omega)) dL fL H.size _ _ _ _ _ hcd e1) (vx_cwSW 2 hts (rc_gS tw_7_52 tw_7_53 tw_1_0 tw_7_54) rfl rfl rfl (by decide +kernel) ⟨Nat.le_of_ble_eq_true rfl, Nat.le_of_ble_eq_true rfl⟩) (lx_preL hT hW hK hE hS hOL hK2 hNc [.ref x, .ref (x + 316)]) rfl rfl hl.1 rfl (lv_room (Nat.le_of_ble_eq_true rfl)) dL_law_2302 ⟨by show cells + 1 ≤ 606338; omega, by show slots + 6 ≤ 7201315; omega⟩) (fun fL H locs hp hW hOL hOD hS => ?_)
  refine lv_istore (lv' := [(6, .int cd), (0, .ref b), (1, .ref x), (2, .ref (x + 308)), (3, .ref (x + 316)), (4, .ref (x + 317)), (5, .int (nI (4 * N)))]) hx hb dL_law_2305 hl (by decide) rfl (fun ls hl => ?_)
  refine lv_aload_n hx hb dL_law_2307 rfl (lv_at hl 3 rfl) ?_
  refine lx_mi hS hOL hOD (va_runV (As := []) (rest := []) ⟨hx, hb, hml, hown, hts⟩ (k_X9_restore l hT (x + 308) w_sh10 H.size _ _ _ e2) (cwV 0 hts (rc_gV tw_8_225 tw_8_226 tw_8_227 tw_1_14 tw_8_228) rfl rfl rfl (by decide +kernel) ⟨Nat.le_of_ble_eq_true rfl, Nat.le_of_ble_eq_true rfl⟩) (rc_preV hT hW hK hE hS w_sh10 (by decide) rfl (q := (RX9, TX9, 22)) rfl []) rfl rfl hl.1 rfl (lv_room (Nat.le_of_ble_eq_true rfl)) dL_law_2308 ⟨by show cells + 1 + 0 ≤ 606338; omega, by show slots + 6 + 0 ≤ 7201315; omega⟩) (fun H locs hW hOL hOD hS => ?_)
  refine lv_istore (lv' := [(7, .int v), (6, .int cd), (0, .ref b), (1, .ref x), (2, .ref (x + 308)), (3, .ref (x + 316)), (4, .ref (x + 317)), (5, .int (nI (4 * N)))]) hx hb dL_law_2311 hl (by decide) rfl (fun ls hl => ?_)
  refine lv_aload_n hx hb dL_law_2313 rfl (lv_at hl 4 rfl) ?_
  refine lx_mi hS hOL hOD (va_runV (As := []) (rest := []) ⟨hx, hb, hml, hown, hts⟩ (k_X9_thrown l hT (x + 308) w_sh10 H.size _ _ _ hth) (cwV 0 hts (rc_gV tw_7_136 tw_7_137 tw_7_138 tw_1_14 tw_7_139) rfl rfl rfl (by decide +kernel) ⟨Nat.le_of_ble_eq_true rfl, Nat.le_of_ble_eq_true rfl⟩) (rc_preV hT hW hK hE hS w_sh10 (by decide) rfl (q := (RX9, TX9, 22)) rfl []) rfl rfl hl.1 rfl (lv_room (Nat.le_of_ble_eq_true rfl)) dL_law_2314 ⟨by show cells + 1 + 0 + 0 ≤ 606338; omega, by show slots + 6 + 0 + 0 ≤ 7201315; omega⟩) (fun H locs hW hOL hOD hS => ?_)
  refine lv_iload hx hb dL_law_2317 (lv_at hl 1 rfl) ?_
  refine lv_icmp_eq (tgt := 2324) hx hb dL_law_2319 (by decide) (fun _ => ?_) (fun c9 => absurd rfl c9)
  refine lv_iload hx hb dL_law_2324 (lv_at hl 1 rfl) ?_
  refine lv_if_ne (tgt := 2341) hx hb dL_law_2326 (by decide) (fun c9 => ?_) (fun c9 => ?_)
  · refine lv_goto (tgt := 2344) hx hb dL_law_2341 (by decide) ?_
    refine W.widen (k := cells + 3) (n := slots + 18) (by omega) (by omega) ?_
    exact kk _ _ _ ⟨σ2, fL, fD, hW, hI2, hOL, hOD⟩ hS (lv_sub hl [2, 3, 4, 5, 6, 7] rfl)
  · have hk0 : k = 0 := by rcases hcd with ⟨h1, h2⟩ | ⟨h1, h2⟩ <;> first | exact h1 | exact absurd (h2.symm.trans c9) (by decide)
    refine lv_aload_n hx hb dL_law_2329 rfl (lv_at hl 5 rfl) ?_
    refine lv_iconst (v := 0) hx hb dL_law_2330 (by decide) ?_
    refine lx_lald hx hb hK2 hOL dL_law_2331 ?_
    refine lv_iload hx hb dL_law_2332 (lv_at hl 0 rfl) ?_
    refine lv_i2l hx hb dL_law_2334 rfl ?_
    refine W.lcmp hx hb dL_law_2335 ?_
    refine lv_if_eq (tgt := 2341) hx hb dL_law_2336 (by decide) (fun _ => ?_) (fun c8 => absurd ((lg_cmp_eq _ _).mpr (by rw [hp hk0, hrv hk0])) c8)
    refine lv_goto (tgt := 2344) hx hb dL_law_2341 (by decide) ?_
    refine W.widen (k := cells + 3) (n := slots + 18) (by omega) (by omega) ?_
    exact kk _ _ _ ⟨σ2, fL, fD, hW, hI2, hOL, hOD⟩ hS (lv_sub hl [2, 3, 4, 5, 6, 7] rfl)
