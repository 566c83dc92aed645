set_option maxHeartbeats 4000000 in
set_option maxRecDepth 100000 in
theorem lc_line : lx_case 1931 := by
  intro p l e s m below meth c H locs cells slots Q ls Y x N b L xs dL dD hC hN hS hJ hl hc hs kk
  obtain ⟨hx, hb, hml, hown, hts, hX, hbl, hL, hxe, hYx, hK, hE, hK2, hK3, hNc, hl9⟩ := hC
  have hT : rc_T Y (w_sh x) (w_rf x) := w_T (Nat.le_of_eq hYx)
  obtain ⟨σ, fL, fD, hW, hI, hOL, hOD⟩ := hJ
  have hN9 : N ≤ 900 := by omega
  obtain ⟨k, r, σ1, cd, v, σ2, e1, e2, hcd, hcd2, hrv, hI2⟩ := i_line w_X hN9 ((xs (4 * N + 1))) hI
  have hth : f_X9_thrown (w_rf x) (x + 308) σ2 = some (cd, σ2) := by rw [← hcd2]; rfl
  refine lv_aload_n hx hb dL_law_1931 rfl (lv_at hl 1 rfl) ?_
  refine lv_aload_n hx hb dL_law_1932 rfl (lv_at hl 0 rfl) ?_
  refine lv_iload hx hb dL_law_1933 (lv_at hl 5 rfl) ?_
  refine lv_iconst (v := 1) hx hb dL_law_1935 (by decide) ?_
  refine lv_iadd hx hb dL_law_1936 ?_
  refine lx_sld hx hb hX hbl hxe hL hS (j := 4 * N + 1) (by omega) (nI_add (4 * N) 1) dL_law_1937 ?_
  refine lv_aload_n hx hb dL_law_1938 rfl (lv_at hl 3 rfl) ?_
  refine lx_wL hxe hS hOD (vx_runSW (As := [.ref x, .int (xs (4 * N + 1)), .ref (x + 316)]) (rest := []) ⟨hx, hb, hml, hown, hts⟩ (k_L_line l hl9 hT x ((xs (4 * N + 1))) (x + 316) w_sh9 (w_sh0 (by omega)) dL fL H.size _ _ _ _ _ hcd e1) (vx_cwSW 3 hts (rc_gS tw_6_213 tw_6_214 tw_1_0 tw_6_215) rfl rfl rfl (by decide +kernel) ⟨Nat.le_of_ble_eq_true rfl, Nat.le_of_ble_eq_true rfl⟩) (lx_preL hT hW hK hE hS hOL hK2 hNc [.ref x, .int (xs (4 * N + 1)), .ref (x + 316)]) rfl rfl hl.1 rfl (lv_room (Nat.le_of_ble_eq_true rfl)) dL_law_1939 ⟨by show cells + 1 ≤ 606338; omega, by show slots + 6 ≤ 7201315; omega⟩) (fun fL H locs hp hW hOL hOD hS => ?_)
  refine lv_istore (lv' := [(6, .int cd), (0, .ref b), (1, .ref x), (2, .ref (x + 308)), (3, .ref (x + 316)), (4, .ref (x + 317)), (5, .int (nI (4 * N)))]) hx hb dL_law_1942 hl (by decide) rfl (fun ls hl => ?_)
  refine lv_aload_n hx hb dL_law_1944 rfl (lv_at hl 3 rfl) ?_
  refine lv_aload_n hx hb dL_law_1945 rfl (lv_at hl 1 rfl) ?_
  refine lv_iload hx hb dL_law_1946 (lv_at hl 6 rfl) ?_
  refine lv_iconst (v := 1) hx hb dL_law_1948 (by decide) ?_
  refine lv_iadd hx hb dL_law_1949 ?_
  refine lx_sld hx hb hX hbl hxe hL hS (j := 4 * N + 1) (by omega) (nI_add (4 * N) 1) dL_law_1950 ?_
  refine lx_mi hS hOL hOD (va_runV (As := [.int (xs (4 * N + 1))]) (rest := []) ⟨hx, hb, hml, hown, hts⟩ (k_X9_line l hT (x + 308) ((xs (4 * N + 1))) w_sh10 H.size _ _ _ e2) (cwV 1 hts (rc_gV tw_8_185 tw_8_186 tw_8_187 tw_1_14 tw_8_188) rfl rfl rfl (by decide +kernel) ⟨Nat.le_of_ble_eq_true rfl, Nat.le_of_ble_eq_true rfl⟩) (rc_preV hT hW hK hE hS w_sh10 (by decide) rfl (q := (RX9, TX9, 22)) rfl [.int (xs (4 * N + 1))]) rfl rfl hl.1 rfl (lv_room (Nat.le_of_ble_eq_true rfl)) dL_law_1951 ⟨by show cells + 1 + 0 ≤ 606338; omega, by show slots + 6 + 0 ≤ 7201315; omega⟩) (fun H locs hW hOL hOD hS => ?_)
  refine lv_istore (lv' := [(7, .int v), (6, .int cd), (0, .ref b), (1, .ref x), (2, .ref (x + 308)), (3, .ref (x + 316)), (4, .ref (x + 317)), (5, .int (nI (4 * N)))]) hx hb dL_law_1954 hl (by decide) rfl (fun ls hl => ?_)
  refine lv_aload_n hx hb dL_law_1956 rfl (lv_at hl 4 rfl) ?_
  refine lx_mi hS hOL hOD (va_runV (As := []) (rest := []) ⟨hx, hb, hml, hown, hts⟩ (k_X9_thrown l hT (x + 308) w_sh10 H.size _ _ _ hth) (cwV 0 hts (rc_gV tw_7_136 tw_7_137 tw_7_138 tw_1_14 tw_7_139) rfl rfl rfl (by decide +kernel) ⟨Nat.le_of_ble_eq_true rfl, Nat.le_of_ble_eq_true rfl⟩) (rc_preV hT hW hK hE hS w_sh10 (by decide) rfl (q := (RX9, TX9, 22)) rfl []) rfl rfl hl.1 rfl (lv_room (Nat.le_of_ble_eq_true rfl)) dL_law_1957 ⟨by show cells + 1 + 0 + 0 ≤ 606338; omega, by show slots + 6 + 0 + 0 ≤ 7201315; omega⟩) (fun H locs hW hOL hOD hS => ?_)
  refine lv_iload hx hb dL_law_1960 (lv_at hl 1 rfl) ?_
  refine lv_icmp_eq (tgt := 1967) hx hb dL_law_1962 (by decide) (fun _ => ?_) (fun c9 => absurd rfl c9)
  refine lv_iload hx hb dL_law_1967 (lv_at hl 1 rfl) ?_
  refine lv_if_ne (tgt := 1984) hx hb dL_law_1969 (by decide) (fun c9 => ?_) (fun c9 => ?_)
  · refine lv_goto (tgt := 2344) hx hb dL_law_1984 (by decide) ?_
    refine W.widen (k := cells + 3) (n := slots + 18) (by omega) (by omega) ?_
    exact kk _ _ _ ⟨σ2, fL, fD, hW, hI2, hOL, hOD⟩ hS (lv_sub hl [2, 3, 4, 5, 6, 7] rfl)
  · have hk0 : k = 0 := by rcases hcd with ⟨h1, h2⟩ | ⟨h1, h2⟩ <;> first | exact h1 | exact absurd (h2.symm.trans c9) (by decide)
    refine lv_aload_n hx hb dL_law_1972 rfl (lv_at hl 5 rfl) ?_
    refine lv_iconst (v := 0) hx hb dL_law_1973 (by decide) ?_
    refine lx_lald hx hb hK2 hOL dL_law_1974 ?_
    refine lv_iload hx hb dL_law_1975 (lv_at hl 0 rfl) ?_
    refine lv_i2l hx hb dL_law_1977 rfl ?_
    refine W.lcmp hx hb dL_law_1978 ?_
    refine lv_if_eq (tgt := 1984) hx hb dL_law_1979 (by decide) (fun _ => ?_) (fun c8 => absurd ((lg_cmp_eq _ _).mpr (by rw [hp hk0, hrv hk0])) c8)
    refine lv_goto (tgt := 2344) hx hb dL_law_1984 (by decide) ?_
    refine W.widen (k := cells + 3) (n := slots + 18) (by omega) (by omega) ?_
    exact kk _ _ _ ⟨σ2, fL, fD, hW, hI2, hOL, hOD⟩ hS (lv_sub hl [2, 3, 4, 5, 6, 7] rfl)
set_option maxHeartbeats 4000000 in
set_option maxRecDepth 100000 in
theorem lc_panel : lx_case 1987 := by
  intro p l e s m below meth c H locs cells slots Q ls Y x N b L xs dL dD hC hN hS hJ hl hc hs kk
  obtain ⟨hx, hb, hml, hown, hts, hX, hbl, hL, hxe, hYx, hK, hE, hK2, hK3, hNc, hl9⟩ := hC
  have hT : rc_T Y (w_sh x) (w_rf x) := w_T (Nat.le_of_eq hYx)
  obtain ⟨σ, fL, fD, hW, hI, hOL, hOD⟩ := hJ
  have hN9 : N ≤ 900 := by omega
  obtain ⟨r, σ1, σ2, e1, e2, hI2⟩ := i_panel w_X hN9 hI
  refine lv_aload_n hx hb dL_law_1987 rfl (lv_at hl 1 rfl) ?_
  refine lx_mi hS hOL hOD (va_runV (As := []) (rest := []) ⟨hx, hb, hml, hown, hts⟩ (k_X8_panel l hT x w_sh9 H.size _ _ _ e1) (cwV 0 hts (rc_gV tw_2_175 tw_2_176 tw_2_177 tw_1_1 tw_2_178) rfl rfl rfl (by decide +kernel) ⟨Nat.le_of_ble_eq_true rfl, Nat.le_of_ble_eq_true rfl⟩) (rc_preV hT hW hK hE hS w_sh9 (by decide) rfl (q := (RX8, TX8, 9)) rfl []) rfl rfl hl.1 rfl (lv_room (Nat.le_of_ble_eq_true rfl)) dL_law_1988 ⟨by show cells + 0 ≤ 606338; omega, by show slots + 0 ≤ 7201315; omega⟩) (fun H locs hW hOL hOD hS => ?_)
  refine lv_aload_n hx hb dL_law_1991 rfl (lv_at hl 2 rfl) ?_
  refine lx_mi hS hOL hOD (va_runV (As := []) (rest := [.int r]) ⟨hx, hb, hml, hown, hts⟩ (k_X9_panel l hT (x + 308) w_sh10 H.size _ _ _ e2) (cwV 0 hts (rc_gV tw_8_197 tw_8_198 tw_8_199 tw_1_14 tw_8_200) rfl rfl rfl (by decide +kernel) ⟨Nat.le_of_ble_eq_true rfl, Nat.le_of_ble_eq_true rfl⟩) (rc_preV hT hW hK hE hS w_sh10 (by decide) rfl (q := (RX9, TX9, 22)) rfl []) rfl rfl hl.1 rfl (lv_room (Nat.le_of_ble_eq_true rfl)) dL_law_1992 ⟨by show cells + 0 + 0 ≤ 606338; omega, by show slots + 0 + 0 ≤ 7201315; omega⟩) (fun H locs hW hOL hOD hS => ?_)
  refine lv_icmp_eq (tgt := 2344) hx hb dL_law_1995 (by decide) (fun _ => ?_) (fun c9 => absurd rfl c9)
  refine W.widen (k := cells + 3) (n := slots + 18) (by omega) (by omega) ?_
  exact kk _ _ _ ⟨σ2, fL, fD, hW, hI2, hOL, hOD⟩ hS (lv_sub hl [0, 1, 2, 3, 4, 5] rfl)
set_option maxHeartbeats 4000000 in
set_option maxRecDepth 100000 in
theorem lc_character : lx_case 2000 := by
  intro p l e s m below meth c H locs cells slots Q ls Y x N b L xs dL dD hC hN hS hJ hl hc hs kk
  obtain ⟨hx, hb, hml, hown, hts, hX, hbl, hL, hxe, hYx, hK, hE, hK2, hK3, hNc, hl9⟩ := hC
  have hT : rc_T Y (w_sh x) (w_rf x) := w_T (Nat.le_of_eq hYx)
  obtain ⟨σ, fL, fD, hW, hI, hOL, hOD⟩ := hJ
  have hN9 : N ≤ 900 := by omega
  obtain ⟨k, r, σ1, cd, v, σ2, e1, e2, hcd, hcd2, hrv, hI2⟩ := i_character w_X hN9 ((xs (4 * N + 1))) hI
  have hth : f_X9_thrown (w_rf x) (x + 308) σ2 = some (cd, σ2) := by rw [← hcd2]; rfl
  refine lv_aload_n hx hb dL_law_2000 rfl (lv_at hl 1 rfl) ?_
  refine lv_aload_n hx hb dL_law_2001 rfl (lv_at hl 0 rfl) ?_
  refine lv_iload hx hb dL_law_2002 (lv_at hl 5 rfl) ?_
  refine lv_iconst (v := 1) hx hb dL_law_2004 (by decide) ?_
  refine lv_iadd hx hb dL_law_2005 ?_
  refine lx_sld hx hb hX hbl hxe hL hS (j := 4 * N + 1) (by omega) (nI_add (4 * N) 1) dL_law_2006 ?_
  refine lv_aload_n hx hb dL_law_2007 rfl (lv_at hl 3 rfl) ?_
  refine lx_wL hxe hS hOD (vx_runSW (As := [.ref x, .int (xs (4 * N + 1)), .ref (x + 316)]) (rest := []) ⟨hx, hb, hml, hown, hts⟩ (k_L_character l hl9 hT x ((xs (4 * N + 1))) (x + 316) w_sh9 (w_sh0 (by omega)) dL fL H.size _ _ _ _ _ hcd e1) (vx_cwSW 3 hts (rc_gS tw_6_220 tw_6_221 tw_1_0 tw_6_222) rfl rfl rfl (by decide +kernel) ⟨Nat.le_of_ble_eq_true rfl, Nat.le_of_ble_eq_true rfl⟩) (lx_preL hT hW hK hE hS hOL hK2 hNc [.ref x, .int (xs (4 * N + 1)), .ref (x + 316)]) rfl rfl hl.1 rfl (lv_room (Nat.le_of_ble_eq_true rfl)) dL_law_2008 ⟨by show cells + 1 ≤ 606338; omega, by show slots + 6 ≤ 7201315; omega⟩) (fun fL H locs hp hW hOL hOD hS => ?_)
  refine lv_istore (lv' := [(6, .int cd), (0, .ref b), (1, .ref x), (2, .ref (x + 308)), (3, .ref (x + 316)), (4, .ref (x + 317)), (5, .int (nI (4 * N)))]) hx hb dL_law_2011 hl (by decide) rfl (fun ls hl => ?_)
  refine lv_aload_n hx hb dL_law_2013 rfl (lv_at hl 3 rfl) ?_
  refine lv_aload_n hx hb dL_law_2014 rfl (lv_at hl 1 rfl) ?_
  refine lv_iload hx hb dL_law_2015 (lv_at hl 6 rfl) ?_
  refine lv_iconst (v := 1) hx hb dL_law_2017 (by decide) ?_
  refine lv_iadd hx hb dL_law_2018 ?_
  refine lx_sld hx hb hX hbl hxe hL hS (j := 4 * N + 1) (by omega) (nI_add (4 * N) 1) dL_law_2019 ?_
  refine lx_mi hS hOL hOD (va_runV (As := [.int (xs (4 * N + 1))]) (rest := []) ⟨hx, hb, hml, hown, hts⟩ (k_X9_character l hT (x + 308) ((xs (4 * N + 1))) w_sh10 H.size _ _ _ e2) (cwV 1 hts (rc_gV tw_8_201 tw_8_202 tw_8_203 tw_1_14 tw_8_204) rfl rfl rfl (by decide +kernel) ⟨Nat.le_of_ble_eq_true rfl, Nat.le_of_ble_eq_true rfl⟩) (rc_preV hT hW hK hE hS w_sh10 (by decide) rfl (q := (RX9, TX9, 22)) rfl [.int (xs (4 * N + 1))]) rfl rfl hl.1 rfl (lv_room (Nat.le_of_ble_eq_true rfl)) dL_law_2020 ⟨by show cells + 1 + 0 ≤ 606338; omega, by show slots + 6 + 0 ≤ 7201315; omega⟩) (fun H locs hW hOL hOD hS => ?_)
  refine lv_istore (lv' := [(7, .int v), (6, .int cd), (0, .ref b), (1, .ref x), (2, .ref (x + 308)), (3, .ref (x + 316)), (4, .ref (x + 317)), (5, .int (nI (4 * N)))]) hx hb dL_law_2023 hl (by decide) rfl (fun ls hl => ?_)
  refine lv_aload_n hx hb dL_law_2025 rfl (lv_at hl 4 rfl) ?_
  refine lx_mi hS hOL hOD (va_runV (As := []) (rest := []) ⟨hx, hb, hml, hown, hts⟩ (k_X9_thrown l hT (x + 308) w_sh10 H.size _ _ _ hth) (cwV 0 hts (rc_gV tw_7_136 tw_7_137 tw_7_138 tw_1_14 tw_7_139) rfl rfl rfl (by decide +kernel) ⟨Nat.le_of_ble_eq_true rfl, Nat.le_of_ble_eq_true rfl⟩) (rc_preV hT hW hK hE hS w_sh10 (by decide) rfl (q := (RX9, TX9, 22)) rfl []) rfl rfl hl.1 rfl (lv_room (Nat.le_of_ble_eq_true rfl)) dL_law_2026 ⟨by show cells + 1 + 0 + 0 ≤ 606338; omega, by show slots + 6 + 0 + 0 ≤ 7201315; omega⟩) (fun H locs hW hOL hOD hS => ?_)
  refine lv_iload hx hb dL_law_2029 (lv_at hl 1 rfl) ?_
  refine lv_icmp_eq (tgt := 2036) hx hb dL_law_2031 (by decide) (fun _ => ?_) (fun c9 => absurd rfl c9)
  refine lv_iload hx hb dL_law_2036 (lv_at hl 1 rfl) ?_
  refine lv_if_ne (tgt := 2053) hx hb dL_law_2038 (by decide) (fun c9 => ?_) (fun c9 => ?_)
  · refine lv_goto (tgt := 2344) hx hb dL_law_2053 (by decide) ?_
    refine W.widen (k := cells + 3) (n := slots + 18) (by omega) (by omega) ?_
    exact kk _ _ _ ⟨σ2, fL, fD, hW, hI2, hOL, hOD⟩ hS (lv_sub hl [2, 3, 4, 5, 6, 7] rfl)
  · have hk0 : k = 0 := by rcases hcd with ⟨h1, h2⟩ | ⟨h1, h2⟩ <;> first | exact h1 | exact absurd (h2.symm.trans c9) (by decide)
    refine lv_aload_n hx hb dL_law_2041 rfl (lv_at hl 5 rfl) ?_
    refine lv_iconst (v := 0) hx hb dL_law_2042 (by decide) ?_
    refine lx_lald hx hb hK2 hOL dL_law_2043 ?_
    refine lv_iload hx hb dL_law_2044 (lv_at hl 0 rfl) ?_
    refine lv_i2l hx hb dL_law_2046 rfl ?_
    refine W.lcmp hx hb dL_law_2047 ?_
    refine lv_if_eq (tgt := 2053) hx hb dL_law_2048 (by decide) (fun _ => ?_) (fun c8 => absurd ((lg_cmp_eq _ _).mpr (by rw [hp hk0, hrv hk0])) c8)
    refine lv_goto (tgt := 2344) hx hb dL_law_2053 (by decide) ?_
    refine W.widen (k := cells + 3) (n := slots + 18) (by omega) (by omega) ?_
    exact kk _ _ _ ⟨σ2, fL, fD, hW, hI2, hOL, hOD⟩ hS (lv_sub hl [2, 3, 4, 5, 6, 7] rfl)
set_option maxHeartbeats 4000000 in
set_option maxRecDepth 100000 in
theorem lc_meanNote : lx_case 2056 := by
  intro p l e s m below meth c H locs cells slots Q ls Y x N b L xs dL dD hC hN hS hJ hl hc hs kk
  obtain ⟨hx, hb, hml, hown, hts, hX, hbl, hL, hxe, hYx, hK, hE, hK2, hK3, hNc, hl9⟩ := hC
  have hT : rc_T Y (w_sh x) (w_rf x) := w_T (Nat.le_of_eq hYx)
  obtain ⟨σ, fL, fD, hW, hI, hOL, hOD⟩ := hJ
  have hN9 : N ≤ 900 := by omega
  obtain ⟨k, r, σ1, cd, v, σ2, e1, e2, hcd, hcd2, hrv, hI2⟩ := i_meanNote w_X hN9  hI
  have hth : f_X9_thrown (w_rf x) (x + 308) σ2 = some (cd, σ2) := by rw [← hcd2]; rfl
  refine lv_aload_n hx hb dL_law_2056 rfl (lv_at hl 1 rfl) ?_
  refine lv_aload hx hb dL_law_2057 (lv_at hl 4 rfl) ?_
  refine lx_wD hxe hS hOL (vx_runSW (As := [.ref x, .ref (x + 317)]) (rest := []) ⟨hx, hb, hml, hown, hts⟩ (k_L_meanNote l hl9 hT x (x + 317) w_sh9 (w_sh0 (by omega)) dD fD H.size _ _ _ _ _ hcd e1) (vx_cwSW 2 hts (rc_gS tw_6_237 tw_6_238 tw_1_0 tw_6_239) rfl rfl rfl (by decide +kernel) ⟨Nat.le_of_ble_eq_true rfl, Nat.le_of_ble_eq_true rfl⟩) (lx_preL hT hW hK hE hS hOD hK3 hNc [.ref x, .ref (x + 317)]) rfl rfl hl.1 rfl (lv_room (Nat.le_of_ble_eq_true rfl)) dL_law_2059 ⟨by show cells + 1 ≤ 606338; omega, by show slots + 6 ≤ 7201315; omega⟩) (fun fD H locs hp hW hOL hOD hS => ?_)
  refine lv_istore (lv' := [(6, .int cd), (0, .ref b), (1, .ref x), (2, .ref (x + 308)), (3, .ref (x + 316)), (4, .ref (x + 317)), (5, .int (nI (4 * N)))]) hx hb dL_law_2062 hl (by decide) rfl (fun ls hl => ?_)
  refine lv_aload_n hx hb dL_law_2064 rfl (lv_at hl 3 rfl) ?_
  refine lx_md hS hOL hOD (va_runV (As := []) (rest := []) ⟨hx, hb, hml, hown, hts⟩ (k_X9_meanNote l hT (x + 308) w_sh10 H.size _ _ _ e2) (cwV 0 hts (rc_gV tw_8_205 tw_8_206 tw_8_207 tw_1_14 tw_8_208) rfl rfl rfl (by decide +kernel) ⟨Nat.le_of_ble_eq_true rfl, Nat.le_of_ble_eq_true rfl⟩) (rc_preV hT hW hK hE hS w_sh10 (by decide) rfl (q := (RX9, TX9, 22)) rfl []) rfl rfl hl.1 rfl (lv_room (Nat.le_of_ble_eq_true rfl)) dL_law_2065 ⟨by show cells + 1 + 0 ≤ 606338; omega, by show slots + 6 + 0 ≤ 7201315; omega⟩) (fun H locs hW hOL hOD hS => ?_)
  refine lv_dstore (lv' := [(7, .double v), (6, .int cd), (0, .ref b), (1, .ref x), (2, .ref (x + 308)), (3, .ref (x + 316)), (4, .ref (x + 317)), (5, .int (nI (4 * N)))]) hx hb dL_law_2068 hl (by decide) rfl (fun ls hl => ?_)
  refine lv_aload_n hx hb dL_law_2070 rfl (lv_at hl 4 rfl) ?_
  refine lx_mi hS hOL hOD (va_runV (As := []) (rest := []) ⟨hx, hb, hml, hown, hts⟩ (k_X9_thrown l hT (x + 308) w_sh10 H.size _ _ _ hth) (cwV 0 hts (rc_gV tw_7_136 tw_7_137 tw_7_138 tw_1_14 tw_7_139) rfl rfl rfl (by decide +kernel) ⟨Nat.le_of_ble_eq_true rfl, Nat.le_of_ble_eq_true rfl⟩) (rc_preV hT hW hK hE hS w_sh10 (by decide) rfl (q := (RX9, TX9, 22)) rfl []) rfl rfl hl.1 rfl (lv_room (Nat.le_of_ble_eq_true rfl)) dL_law_2071 ⟨by show cells + 1 + 0 + 0 ≤ 606338; omega, by show slots + 6 + 0 + 0 ≤ 7201315; omega⟩) (fun H locs hW hOL hOD hS => ?_)
  refine lv_iload hx hb dL_law_2074 (lv_at hl 1 rfl) ?_
  refine lv_icmp_eq (tgt := 2081) hx hb dL_law_2076 (by decide) (fun _ => ?_) (fun c9 => absurd rfl c9)
  refine lv_iload hx hb dL_law_2081 (lv_at hl 1 rfl) ?_
  refine lv_if_ne (tgt := 2118) hx hb dL_law_2083 (by decide) (fun c9 => ?_) (fun c9 => ?_)
  · refine lv_goto (tgt := 2344) hx hb dL_law_2118 (by decide) ?_
    refine W.widen (k := cells + 3) (n := slots + 18) (by omega) (by omega) ?_
    exact kk _ _ _ ⟨σ2, fL, fD, hW, hI2, hOL, hOD⟩ hS (lv_sub hl [2, 3, 4, 5, 6, 7] rfl)
  · have hk0 : k = 0 := by rcases hcd with ⟨h1, h2⟩ | ⟨h1, h2⟩ <;> first | exact h1 | exact absurd (h2.symm.trans c9) (by decide)
    have hfd : fD 0 = v := by rw [hp hk0, hrv hk0]
    refine lv_aload hx hb dL_law_2086 (lv_at hl 6 rfl) ?_
    refine lv_iconst (v := 0) hx hb dL_law_2088 (by decide) ?_
    refine lx_dald hx hb hK3 hOD dL_law_2089 ?_
    refine lv_dload hx hb dL_law_2090 (lv_at hl 0 rfl) ?_
    refine lv_dcmp hx hb dL_law_2092 ?_
    refine lv_if_eq (tgt := 2118) hx hb dL_law_2093 (by decide) (fun _ => ?_) (fun c8 => ?_)
    · refine lv_goto (tgt := 2344) hx hb dL_law_2118 (by decide) ?_
      refine W.widen (k := cells + 3) (n := slots + 18) (by omega) (by omega) ?_
      exact kk _ _ _ ⟨σ2, fL, fD, hW, hI2, hOL, hOD⟩ hS (lv_sub hl [2, 3, 4, 5, 6, 7] rfl)
    · refine lv_aload hx hb dL_law_2096 (lv_at hl 6 rfl) ?_
      refine lv_iconst (v := 0) hx hb dL_law_2098 (by decide) ?_
      refine lx_dald hx hb hK3 hOD dL_law_2099 ?_
      refine lv_aload hx hb dL_law_2100 (lv_at hl 6 rfl) ?_
      refine lv_iconst (v := 0) hx hb dL_law_2102 (by decide) ?_
      refine lx_dald hx hb hK3 hOD dL_law_2103 ?_
      refine lv_dcmp hx hb dL_law_2104 ?_
      refine lv_if_eq (tgt := 2116) hx hb dL_law_2105 (by decide) (fun c7 => absurd (by rw [← hfd]; exact c7) c8) (fun c7 => ?_)
      refine lv_dload hx hb dL_law_2108 (lv_at hl 0 rfl) ?_
      refine lv_dload hx hb dL_law_2110 (lv_at hl 0 rfl) ?_
      refine lv_dcmp hx hb dL_law_2112 ?_
      refine lv_if_ne (tgt := 2118) hx hb dL_law_2113 (by decide) (fun _ => ?_) (fun c6 => absurd (by rw [hfd]; exact c6) c8)
      refine lv_goto (tgt := 2344) hx hb dL_law_2118 (by decide) ?_
      refine W.widen (k := cells + 3) (n := slots + 18) (by omega) (by omega) ?_
      exact kk _ _ _ ⟨σ2, fL, fD, hW, hI2, hOL, hOD⟩ hS (lv_sub hl [2, 3, 4, 5, 6, 7] rfl)
set_option maxHeartbeats 4000000 in
set_option maxRecDepth 100000 in
theorem lc_hailShare : lx_case 2121 := by
  intro p l e s m below meth c H locs cells slots Q ls Y x N b L xs dL dD hC hN hS hJ hl hc hs kk
  obtain ⟨hx, hb, hml, hown, hts, hX, hbl, hL, hxe, hYx, hK, hE, hK2, hK3, hNc, hl9⟩ := hC
  have hT : rc_T Y (w_sh x) (w_rf x) := w_T (Nat.le_of_eq hYx)
  obtain ⟨σ, fL, fD, hW, hI, hOL, hOD⟩ := hJ
  have hN9 : N ≤ 900 := by omega
  obtain ⟨k, r, cd, v, σ2, e1, e2, hcd, hcd2, hrv, hnn, hI2⟩ := i_hailShare w_X hI
  have hth : f_X9_thrown (w_rf x) (x + 308) σ2 = some (cd, σ2) := by rw [← hcd2]; rfl
  refine lv_aload_n hx hb dL_law_2121 rfl (lv_at hl 1 rfl) ?_
  refine lv_aload hx hb dL_law_2122 (lv_at hl 4 rfl) ?_
  refine lx_wD hxe hS hOL (vx_runSW (As := [.ref x, .ref (x + 317)]) (rest := []) ⟨hx, hb, hml, hown, hts⟩ (k_L_hailShare l hl9 hT x (x + 317) w_sh9 (w_sh0 (by omega)) dD fD H.size _ _ _ _ _ hcd hnn e1) (vx_cwSW 2 hts (rc_gS tw_7_23 tw_7_24 tw_1_0 tw_7_25) rfl rfl rfl (by decide +kernel) ⟨Nat.le_of_ble_eq_true rfl, Nat.le_of_ble_eq_true rfl⟩) (lx_preL hT hW hK hE hS hOD hK3 hNc [.ref x, .ref (x + 317)]) rfl rfl hl.1 rfl (lv_room (Nat.le_of_ble_eq_true rfl)) dL_law_2124 ⟨by show cells + 1 ≤ 606338; omega, by show slots + 6 ≤ 7201315; omega⟩) (fun fD H locs hp hW hOL hOD hS => ?_)
  refine lv_istore (lv' := [(6, .int cd), (0, .ref b), (1, .ref x), (2, .ref (x + 308)), (3, .ref (x + 316)), (4, .ref (x + 317)), (5, .int (nI (4 * N)))]) hx hb dL_law_2127 hl (by decide) rfl (fun ls hl => ?_)
  refine lv_aload_n hx hb dL_law_2129 rfl (lv_at hl 3 rfl) ?_
  refine lx_mf hS hOL hOD (va_runV (As := []) (rest := []) ⟨hx, hb, hml, hown, hts⟩ (k_X9_hailShare l hT (x + 308) w_sh10 H.size _ _ _ e2) (cwV 0 hts (rc_gV tw_8_209 tw_8_210 tw_8_211 tw_1_14 tw_8_212) rfl rfl rfl (by decide +kernel) ⟨Nat.le_of_ble_eq_true rfl, Nat.le_of_ble_eq_true rfl⟩) (rc_preV hT hW hK hE hS w_sh10 (by decide) rfl (q := (RX9, TX9, 22)) rfl []) rfl rfl hl.1 rfl (lv_room (Nat.le_of_ble_eq_true rfl)) dL_law_2130 ⟨by show cells + 1 + 0 ≤ 606338; omega, by show slots + 6 + 0 ≤ 7201315; omega⟩) (fun H locs hW hOL hOD hS => ?_)
  refine lv_fstore (lv' := [(7, .float v), (6, .int cd), (0, .ref b), (1, .ref x), (2, .ref (x + 308)), (3, .ref (x + 316)), (4, .ref (x + 317)), (5, .int (nI (4 * N)))]) hx hb dL_law_2133 hl (by decide) rfl (fun ls hl => ?_)
  refine lv_aload_n hx hb dL_law_2135 rfl (lv_at hl 4 rfl) ?_
  refine lx_mi hS hOL hOD (va_runV (As := []) (rest := []) ⟨hx, hb, hml, hown, hts⟩ (k_X9_thrown l hT (x + 308) w_sh10 H.size _ _ _ hth) (cwV 0 hts (rc_gV tw_7_136 tw_7_137 tw_7_138 tw_1_14 tw_7_139) rfl rfl rfl (by decide +kernel) ⟨Nat.le_of_ble_eq_true rfl, Nat.le_of_ble_eq_true rfl⟩) (rc_preV hT hW hK hE hS w_sh10 (by decide) rfl (q := (RX9, TX9, 22)) rfl []) rfl rfl hl.1 rfl (lv_room (Nat.le_of_ble_eq_true rfl)) dL_law_2136 ⟨by show cells + 1 + 0 + 0 ≤ 606338; omega, by show slots + 6 + 0 + 0 ≤ 7201315; omega⟩) (fun H locs hW hOL hOD hS => ?_)
  refine lv_iload hx hb dL_law_2139 (lv_at hl 1 rfl) ?_
  refine lv_icmp_eq (tgt := 2146) hx hb dL_law_2141 (by decide) (fun _ => ?_) (fun c9 => absurd rfl c9)
  refine lv_iload hx hb dL_law_2146 (lv_at hl 1 rfl) ?_
  refine lv_if_ne (tgt := 2184) hx hb dL_law_2148 (by decide) (fun c9 => ?_) (fun c9 => ?_)
  · refine lv_goto (tgt := 2344) hx hb dL_law_2184 (by decide) ?_
    refine W.widen (k := cells + 3) (n := slots + 18) (by omega) (by omega) ?_
    exact kk _ _ _ ⟨σ2, fL, fD, hW, hI2, hOL, hOD⟩ hS (lv_sub hl [2, 3, 4, 5, 6, 7] rfl)
  · have hk0 : k = 0 := by rcases hcd with ⟨h1, h2⟩ | ⟨h1, h2⟩ <;> first | exact h1 | exact absurd (h2.symm.trans c9) (by decide)
    have hfd : fD 0 = FP.f2d v := by rw [hp hk0, hrv hk0]
    refine lv_aload hx hb dL_law_2151 (lv_at hl 6 rfl) ?_
    refine lv_iconst (v := 0) hx hb dL_law_2153 (by decide) ?_
    refine lx_dald hx hb hK3 hOD dL_law_2154 ?_
    refine lv_fload hx hb dL_law_2155 (lv_at hl 0 rfl) ?_
    have hnv : vf_n64 (FP.f2d v) := by rw [← hrv hk0]; exact hnn hk0
    refine lv_f2d hx hb dL_law_2157 hnv ?_
    refine lv_dcmp hx hb dL_law_2158 ?_
    refine lv_if_eq (tgt := 2184) hx hb dL_law_2159 (by decide) (fun _ => ?_) (fun c8 => absurd (by rw [hfd]; exact lx_d0 hnv) c8)
    refine lv_goto (tgt := 2344) hx hb dL_law_2184 (by decide) ?_
    refine W.widen (k := cells + 3) (n := slots + 18) (by omega) (by omega) ?_
    exact kk _ _ _ ⟨σ2, fL, fD, hW, hI2, hOL, hOD⟩ hS (lv_sub hl [2, 3, 4, 5, 6, 7] rfl)
set_option maxHeartbeats 4000000 in
set_option maxRecDepth 100000 in
theorem lc_account : lx_case 2187 := by
  intro p l e s m below meth c H locs cells slots Q ls Y x N b L xs dL dD hC hN hS hJ hl hc hs kk
  obtain ⟨hx, hb, hml, hown, hts, hX, hbl, hL, hxe, hYx, hK, hE, hK2, hK3, hNc, hl9⟩ := hC
  have hT : rc_T Y (w_sh x) (w_rf x) := w_T (Nat.le_of_eq hYx)
  obtain ⟨σ, fL, fD, hW, hI, hOL, hOD⟩ := hJ
  have hN9 : N ≤ 900 := by omega
  obtain ⟨k, r, σ1, cd, v, σ2, e1, e2, hcd, hcd2, hrv, hI2⟩ := i_account w_X hN9 ((xs (4 * N + 1))) hI
  have hth : f_X9_thrown (w_rf x) (x + 308) σ2 = some (cd, σ2) := by rw [← hcd2]; rfl
  refine lv_aload_n hx hb dL_law_2187 rfl (lv_at hl 1 rfl) ?_
  refine lv_aload_n hx hb dL_law_2188 rfl (lv_at hl 0 rfl) ?_
  refine lv_iload hx hb dL_law_2189 (lv_at hl 5 rfl) ?_
  refine lv_iconst (v := 1) hx hb dL_law_2191 (by decide) ?_
  refine lv_iadd hx hb dL_law_2192 ?_
  refine lx_sld hx hb hX hbl hxe hL hS (j := 4 * N + 1) (by omega) (nI_add (4 * N) 1) dL_law_2193 ?_
  refine lv_aload_n hx hb dL_law_2194 rfl (lv_at hl 3 rfl) ?_
  refine lx_wL hxe hS hOD (vx_runSW (As := [.ref x, .int (xs (4 * N + 1)), .ref (x + 316)]) (rest := []) ⟨hx, hb, hml, hown, hts⟩ (k_L_account l hl9 hT x ((xs (4 * N + 1))) (x + 316) w_sh9 (w_sh0 (by omega)) dL fL H.size _ _ _ _ _ hcd e1) (vx_cwSW 3 hts (rc_gS tw_7_34 tw_7_35 tw_1_0 tw_7_36) rfl rfl rfl (by decide +kernel) ⟨Nat.le_of_ble_eq_true rfl, Nat.le_of_ble_eq_true rfl⟩) (lx_preL hT hW hK hE hS hOL hK2 hNc [.ref x, .int (xs (4 * N + 1)), .ref (x + 316)]) rfl rfl hl.1 rfl (lv_room (Nat.le_of_ble_eq_true rfl)) dL_law_2195 ⟨by show cells + 1 ≤ 606338; omega, by show slots + 6 ≤ 7201315; omega⟩) (fun fL H locs hp hW hOL hOD hS => ?_)
  refine lv_istore (lv' := [(6, .int cd), (0, .ref b), (1, .ref x), (2, .ref (x + 308)), (3, .ref (x + 316)), (4, .ref (x + 317)), (5, .int (nI (4 * N)))]) hx hb dL_law_2198 hl (by decide) rfl (fun ls hl => ?_)
  refine lv_aload_n hx hb dL_law_2200 rfl (lv_at hl 3 rfl) ?_
  refine lv_aload_n hx hb dL_law_2201 rfl (lv_at hl 1 rfl) ?_
  refine lv_iload hx hb dL_law_2202 (lv_at hl 6 rfl) ?_
  refine lv_iconst (v := 1) hx hb dL_law_2204 (by decide) ?_
  refine lv_iadd hx hb dL_law_2205 ?_
  refine lx_sld hx hb hX hbl hxe hL hS (j := 4 * N + 1) (by omega) (nI_add (4 * N) 1) dL_law_2206 ?_
  refine lx_mi hS hOL hOD (va_runV (As := [.int (xs (4 * N + 1))]) (rest := []) ⟨hx, hb, hml, hown, hts⟩ (k_X9_account l hT (x + 308) ((xs (4 * N + 1))) w_sh10 H.size _ _ _ e2) (cwV 1 hts (rc_gV tw_8_213 tw_8_214 tw_8_215 tw_1_14 tw_8_216) rfl rfl rfl (by decide +kernel) ⟨Nat.le_of_ble_eq_true rfl, Nat.le_of_ble_eq_true rfl⟩) (rc_preV hT hW hK hE hS w_sh10 (by decide) rfl (q := (RX9, TX9, 22)) rfl [.int (xs (4 * N + 1))]) rfl rfl hl.1 rfl (lv_room (Nat.le_of_ble_eq_true rfl)) dL_law_2207 ⟨by show cells + 1 + 0 ≤ 606338; omega, by show slots + 6 + 0 ≤ 7201315; omega⟩) (fun H locs hW hOL hOD hS => ?_)
  refine lv_istore (lv' := [(7, .int v), (6, .int cd), (0, .ref b), (1, .ref x), (2, .ref (x + 308)), (3, .ref (x + 316)), (4, .ref (x + 317)), (5, .int (nI (4 * N)))]) hx hb dL_law_2210 hl (by decide) rfl (fun ls hl => ?_)
  refine lv_aload_n hx hb dL_law_2212 rfl (lv_at hl 4 rfl) ?_
  refine lx_mi hS hOL hOD (va_runV (As := []) (rest := []) ⟨hx, hb, hml, hown, hts⟩ (k_X9_thrown l hT (x + 308) w_sh10 H.size _ _ _ hth) (cwV 0 hts (rc_gV tw_7_136 tw_7_137 tw_7_138 tw_1_14 tw_7_139) rfl rfl rfl (by decide +kernel) ⟨Nat.le_of_ble_eq_true rfl, Nat.le_of_ble_eq_true rfl⟩) (rc_preV hT hW hK hE hS w_sh10 (by decide) rfl (q := (RX9, TX9, 22)) rfl []) rfl rfl hl.1 rfl (lv_room (Nat.le_of_ble_eq_true rfl)) dL_law_2213 ⟨by show cells + 1 + 0 + 0 ≤ 606338; omega, by show slots + 6 + 0 + 0 ≤ 7201315; omega⟩) (fun H locs hW hOL hOD hS => ?_)
  refine lv_iload hx hb dL_law_2216 (lv_at hl 1 rfl) ?_
  refine lv_icmp_eq (tgt := 2223) hx hb dL_law_2218 (by decide) (fun _ => ?_) (fun c9 => absurd rfl c9)
  refine lv_iload hx hb dL_law_2223 (lv_at hl 1 rfl) ?_
  refine lv_if_ne (tgt := 2240) hx hb dL_law_2225 (by decide) (fun c9 => ?_) (fun c9 => ?_)
  · refine lv_goto (tgt := 2344) hx hb dL_law_2240 (by decide) ?_
    refine W.widen (k := cells + 3) (n := slots + 18) (by omega) (by omega) ?_
    exact kk _ _ _ ⟨σ2, fL, fD, hW, hI2, hOL, hOD⟩ hS (lv_sub hl [2, 3, 4, 5, 6, 7] rfl)
  · have hk0 : k = 0 := by rcases hcd with ⟨h1, h2⟩ | ⟨h1, h2⟩ <;> first | exact h1 | exact absurd (h2.symm.trans c9) (by decide)
    refine lv_aload_n hx hb dL_law_2228 rfl (lv_at hl 5 rfl) ?_
    refine lv_iconst (v := 0) hx hb dL_law_2229 (by decide) ?_
    refine lx_lald hx hb hK2 hOL dL_law_2230 ?_
    refine lv_iload hx hb dL_law_2231 (lv_at hl 0 rfl) ?_
    refine lv_i2l hx hb dL_law_2233 rfl ?_
    refine W.lcmp hx hb dL_law_2234 ?_
    refine lv_if_eq (tgt := 2240) hx hb dL_law_2235 (by decide) (fun _ => ?_) (fun c8 => absurd ((lg_cmp_eq _ _).mpr (by rw [hp hk0, hrv hk0])) c8)
    refine lv_goto (tgt := 2344) hx hb dL_law_2240 (by decide) ?_
    refine W.widen (k := cells + 3) (n := slots + 18) (by omega) (by omega) ?_
    exact kk _ _ _ ⟨σ2, fL, fD, hW, hI2, hOL, hOD⟩ hS (lv_sub hl [2, 3, 4, 5, 6, 7] rfl)
