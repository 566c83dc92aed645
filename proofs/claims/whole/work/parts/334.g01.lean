set_option maxHeartbeats 4000000 in
set_option maxRecDepth 100000 in
theorem lc_leave : lx_case 628 := by
  intro p l e s m below meth c H locs cells slots Q ls Y x N b L xs dL dD hC hN hS hJ hl hc hs kk
  obtain ⟨hx, hb, hml, hown, hts, hX, hbl, hL, hxe, hYx, hK, hE, hK2, hK3, hNc, hl9⟩ := hC
  have hT : rc_T Y (w_sh x) (w_rf x) := w_T (Nat.le_of_eq hYx)
  obtain ⟨σ, fL, fD, hW, hI, hOL, hOD⟩ := hJ
  have hN9 : N ≤ 900 := by omega
  obtain ⟨k, r, σ1, cd, v, σ2, e1, e2, hcd, hcd2, hrv, hI2⟩ := i_leave w_X hN9 ((xs (4 * N + 1))) hI
  have hth : f_X9_thrown (w_rf x) (x + 308) σ2 = some (cd, σ2) := by rw [← hcd2]; rfl
  refine lv_aload_n hx hb dL_law_628 rfl (lv_at hl 1 rfl) ?_
  refine lv_aload_n hx hb dL_law_629 rfl (lv_at hl 0 rfl) ?_
  refine lv_iload hx hb dL_law_630 (lv_at hl 5 rfl) ?_
  refine lv_iconst (v := 1) hx hb dL_law_632 (by decide) ?_
  refine lv_iadd hx hb dL_law_633 ?_
  refine lx_sld hx hb hX hbl hxe hL hS (j := 4 * N + 1) (by omega) (nI_add (4 * N) 1) dL_law_634 ?_
  refine lv_aload_n hx hb dL_law_635 rfl (lv_at hl 3 rfl) ?_
  refine lx_wL hxe hS hOD (vx_runSW (As := [.ref x, .int (xs (4 * N + 1)), .ref (x + 316)]) (rest := []) ⟨hx, hb, hml, hown, hts⟩ (k_L_leave l hl9 hT x ((xs (4 * N + 1))) (x + 316) w_sh9 (w_sh0 (by omega)) dL fL H.size _ _ _ _ _ hcd e1) (vx_cwSW 3 hts (rc_gS tw_5_9 tw_5_10 tw_1_0 tw_5_11) rfl rfl rfl (by decide +kernel) ⟨Nat.le_of_ble_eq_true rfl, Nat.le_of_ble_eq_true rfl⟩) (lx_preL hT hW hK hE hS hOL hK2 hNc [.ref x, .int (xs (4 * N + 1)), .ref (x + 316)]) rfl rfl hl.1 rfl (lv_room (Nat.le_of_ble_eq_true rfl)) dL_law_636 ⟨by show cells + 1 ≤ 606338; omega, by show slots + 6 ≤ 7201315; omega⟩) (fun fL H locs hp hW hOL hOD hS => ?_)
  refine lv_istore (lv' := [(6, .int cd), (0, .ref b), (1, .ref x), (2, .ref (x + 308)), (3, .ref (x + 316)), (4, .ref (x + 317)), (5, .int (nI (4 * N)))]) hx hb dL_law_639 hl (by decide) rfl (fun ls hl => ?_)
  refine lv_aload_n hx hb dL_law_641 rfl (lv_at hl 3 rfl) ?_
  refine lv_aload_n hx hb dL_law_642 rfl (lv_at hl 1 rfl) ?_
  refine lv_iload hx hb dL_law_643 (lv_at hl 6 rfl) ?_
  refine lv_iconst (v := 1) hx hb dL_law_645 (by decide) ?_
  refine lv_iadd hx hb dL_law_646 ?_
  refine lx_sld hx hb hX hbl hxe hL hS (j := 4 * N + 1) (by omega) (nI_add (4 * N) 1) dL_law_647 ?_
  refine lx_mi hS hOL hOD (va_runV (As := [.int (xs (4 * N + 1))]) (rest := []) ⟨hx, hb, hml, hown, hts⟩ (k_X9_leave l hT (x + 308) ((xs (4 * N + 1))) w_sh10 H.size _ _ _ e2) (cwV 1 hts (rc_gV tw_8_14 tw_8_15 tw_8_16 tw_1_14 tw_8_17) rfl rfl rfl (by decide +kernel) ⟨Nat.le_of_ble_eq_true rfl, Nat.le_of_ble_eq_true rfl⟩) (rc_preV hT hW hK hE hS w_sh10 (by decide) rfl (q := (RX9, TX9, 22)) rfl [.int (xs (4 * N + 1))]) rfl rfl hl.1 rfl (lv_room (Nat.le_of_ble_eq_true rfl)) dL_law_648 ⟨by show cells + 1 + 0 ≤ 606338; omega, by show slots + 6 + 0 ≤ 7201315; omega⟩) (fun H locs hW hOL hOD hS => ?_)
  refine lv_istore (lv' := [(7, .int v), (6, .int cd), (0, .ref b), (1, .ref x), (2, .ref (x + 308)), (3, .ref (x + 316)), (4, .ref (x + 317)), (5, .int (nI (4 * N)))]) hx hb dL_law_651 hl (by decide) rfl (fun ls hl => ?_)
  refine lv_aload_n hx hb dL_law_653 rfl (lv_at hl 4 rfl) ?_
  refine lx_mi hS hOL hOD (va_runV (As := []) (rest := []) ⟨hx, hb, hml, hown, hts⟩ (k_X9_thrown l hT (x + 308) w_sh10 H.size _ _ _ hth) (cwV 0 hts (rc_gV tw_7_136 tw_7_137 tw_7_138 tw_1_14 tw_7_139) rfl rfl rfl (by decide +kernel) ⟨Nat.le_of_ble_eq_true rfl, Nat.le_of_ble_eq_true rfl⟩) (rc_preV hT hW hK hE hS w_sh10 (by decide) rfl (q := (RX9, TX9, 22)) rfl []) rfl rfl hl.1 rfl (lv_room (Nat.le_of_ble_eq_true rfl)) dL_law_654 ⟨by show cells + 1 + 0 + 0 ≤ 606338; omega, by show slots + 6 + 0 + 0 ≤ 7201315; omega⟩) (fun H locs hW hOL hOD hS => ?_)
  refine lv_iload hx hb dL_law_657 (lv_at hl 1 rfl) ?_
  refine lv_icmp_eq (tgt := 664) hx hb dL_law_659 (by decide) (fun _ => ?_) (fun c9 => absurd rfl c9)
  refine lv_iload hx hb dL_law_664 (lv_at hl 1 rfl) ?_
  refine lv_if_ne (tgt := 681) hx hb dL_law_666 (by decide) (fun c9 => ?_) (fun c9 => ?_)
  · refine lv_goto (tgt := 2344) hx hb dL_law_681 (by decide) ?_
    refine W.widen (k := cells + 3) (n := slots + 18) (by omega) (by omega) ?_
    exact kk _ _ _ ⟨σ2, fL, fD, hW, hI2, hOL, hOD⟩ hS (lv_sub hl [2, 3, 4, 5, 6, 7] rfl)
  · have hk0 : k = 0 := by rcases hcd with ⟨h1, h2⟩ | ⟨h1, h2⟩ <;> first | exact h1 | exact absurd (h2.symm.trans c9) (by decide)
    refine lv_aload_n hx hb dL_law_669 rfl (lv_at hl 5 rfl) ?_
    refine lv_iconst (v := 0) hx hb dL_law_670 (by decide) ?_
    refine lx_lald hx hb hK2 hOL dL_law_671 ?_
    refine lv_iload hx hb dL_law_672 (lv_at hl 0 rfl) ?_
    refine lv_i2l hx hb dL_law_674 rfl ?_
    refine W.lcmp hx hb dL_law_675 ?_
    refine lv_if_eq (tgt := 681) hx hb dL_law_676 (by decide) (fun _ => ?_) (fun c8 => absurd ((lg_cmp_eq _ _).mpr (by rw [hp hk0, hrv hk0])) c8)
    refine lv_goto (tgt := 2344) hx hb dL_law_681 (by decide) ?_
    refine W.widen (k := cells + 3) (n := slots + 18) (by omega) (by omega) ?_
    exact kk _ _ _ ⟨σ2, fL, fD, hW, hI2, hOL, hOD⟩ hS (lv_sub hl [2, 3, 4, 5, 6, 7] rfl)
set_option maxHeartbeats 4000000 in
set_option maxRecDepth 100000 in
theorem lc_drink : lx_case 684 := by
  intro p l e s m below meth c H locs cells slots Q ls Y x N b L xs dL dD hC hN hS hJ hl hc hs kk
  obtain ⟨hx, hb, hml, hown, hts, hX, hbl, hL, hxe, hYx, hK, hE, hK2, hK3, hNc, hl9⟩ := hC
  have hT : rc_T Y (w_sh x) (w_rf x) := w_T (Nat.le_of_eq hYx)
  obtain ⟨σ, fL, fD, hW, hI, hOL, hOD⟩ := hJ
  have hN9 : N ≤ 900 := by omega
  obtain ⟨k, r, σ1, cd, v, σ2, e1, e2, hcd, hcd2, hrv, hI2⟩ := i_drink w_X hN9 ((xs (4 * N + 1))) hI
  have hth : f_X9_thrown (w_rf x) (x + 308) σ2 = some (cd, σ2) := by rw [← hcd2]; rfl
  refine lv_aload_n hx hb dL_law_684 rfl (lv_at hl 1 rfl) ?_
  refine lv_aload_n hx hb dL_law_685 rfl (lv_at hl 0 rfl) ?_
  refine lv_iload hx hb dL_law_686 (lv_at hl 5 rfl) ?_
  refine lv_iconst (v := 1) hx hb dL_law_688 (by decide) ?_
  refine lv_iadd hx hb dL_law_689 ?_
  refine lx_sld hx hb hX hbl hxe hL hS (j := 4 * N + 1) (by omega) (nI_add (4 * N) 1) dL_law_690 ?_
  refine lv_aload_n hx hb dL_law_691 rfl (lv_at hl 3 rfl) ?_
  refine lx_wL hxe hS hOD (vx_runSW (As := [.ref x, .int (xs (4 * N + 1)), .ref (x + 316)]) (rest := []) ⟨hx, hb, hml, hown, hts⟩ (k_L_drink l hl9 hT x ((xs (4 * N + 1))) (x + 316) w_sh9 (w_sh0 (by omega)) dL fL H.size _ _ _ _ _ hcd e1) (vx_cwSW 3 hts (rc_gS tw_5_28 tw_5_29 tw_1_0 tw_5_30) rfl rfl rfl (by decide +kernel) ⟨Nat.le_of_ble_eq_true rfl, Nat.le_of_ble_eq_true rfl⟩) (lx_preL hT hW hK hE hS hOL hK2 hNc [.ref x, .int (xs (4 * N + 1)), .ref (x + 316)]) rfl rfl hl.1 rfl (lv_room (Nat.le_of_ble_eq_true rfl)) dL_law_692 ⟨by show cells + 1 ≤ 606338; omega, by show slots + 6 ≤ 7201315; omega⟩) (fun fL H locs hp hW hOL hOD hS => ?_)
  refine lv_istore (lv' := [(6, .int cd), (0, .ref b), (1, .ref x), (2, .ref (x + 308)), (3, .ref (x + 316)), (4, .ref (x + 317)), (5, .int (nI (4 * N)))]) hx hb dL_law_695 hl (by decide) rfl (fun ls hl => ?_)
  refine lv_aload_n hx hb dL_law_697 rfl (lv_at hl 3 rfl) ?_
  refine lv_aload_n hx hb dL_law_698 rfl (lv_at hl 1 rfl) ?_
  refine lv_iload hx hb dL_law_699 (lv_at hl 6 rfl) ?_
  refine lv_iconst (v := 1) hx hb dL_law_701 (by decide) ?_
  refine lv_iadd hx hb dL_law_702 ?_
  refine lx_sld hx hb hX hbl hxe hL hS (j := 4 * N + 1) (by omega) (nI_add (4 * N) 1) dL_law_703 ?_
  refine lx_mi hS hOL hOD (va_runV (As := [.int (xs (4 * N + 1))]) (rest := []) ⟨hx, hb, hml, hown, hts⟩ (k_X9_drink l hT (x + 308) ((xs (4 * N + 1))) w_sh10 H.size _ _ _ e2) (cwV 1 hts (rc_gV tw_8_26 tw_8_27 tw_8_28 tw_1_14 tw_8_29) rfl rfl rfl (by decide +kernel) ⟨Nat.le_of_ble_eq_true rfl, Nat.le_of_ble_eq_true rfl⟩) (rc_preV hT hW hK hE hS w_sh10 (by decide) rfl (q := (RX9, TX9, 22)) rfl [.int (xs (4 * N + 1))]) rfl rfl hl.1 rfl (lv_room (Nat.le_of_ble_eq_true rfl)) dL_law_704 ⟨by show cells + 1 + 0 ≤ 606338; omega, by show slots + 6 + 0 ≤ 7201315; omega⟩) (fun H locs hW hOL hOD hS => ?_)
  refine lv_istore (lv' := [(7, .int v), (6, .int cd), (0, .ref b), (1, .ref x), (2, .ref (x + 308)), (3, .ref (x + 316)), (4, .ref (x + 317)), (5, .int (nI (4 * N)))]) hx hb dL_law_707 hl (by decide) rfl (fun ls hl => ?_)
  refine lv_aload_n hx hb dL_law_709 rfl (lv_at hl 4 rfl) ?_
  refine lx_mi hS hOL hOD (va_runV (As := []) (rest := []) ⟨hx, hb, hml, hown, hts⟩ (k_X9_thrown l hT (x + 308) w_sh10 H.size _ _ _ hth) (cwV 0 hts (rc_gV tw_7_136 tw_7_137 tw_7_138 tw_1_14 tw_7_139) rfl rfl rfl (by decide +kernel) ⟨Nat.le_of_ble_eq_true rfl, Nat.le_of_ble_eq_true rfl⟩) (rc_preV hT hW hK hE hS w_sh10 (by decide) rfl (q := (RX9, TX9, 22)) rfl []) rfl rfl hl.1 rfl (lv_room (Nat.le_of_ble_eq_true rfl)) dL_law_710 ⟨by show cells + 1 + 0 + 0 ≤ 606338; omega, by show slots + 6 + 0 + 0 ≤ 7201315; omega⟩) (fun H locs hW hOL hOD hS => ?_)
  refine lv_iload hx hb dL_law_713 (lv_at hl 1 rfl) ?_
  refine lv_icmp_eq (tgt := 720) hx hb dL_law_715 (by decide) (fun _ => ?_) (fun c9 => absurd rfl c9)
  refine lv_iload hx hb dL_law_720 (lv_at hl 1 rfl) ?_
  refine lv_if_ne (tgt := 737) hx hb dL_law_722 (by decide) (fun c9 => ?_) (fun c9 => ?_)
  · refine lv_goto (tgt := 2344) hx hb dL_law_737 (by decide) ?_
    refine W.widen (k := cells + 3) (n := slots + 18) (by omega) (by omega) ?_
    exact kk _ _ _ ⟨σ2, fL, fD, hW, hI2, hOL, hOD⟩ hS (lv_sub hl [2, 3, 4, 5, 6, 7] rfl)
  · have hk0 : k = 0 := by rcases hcd with ⟨h1, h2⟩ | ⟨h1, h2⟩ <;> first | exact h1 | exact absurd (h2.symm.trans c9) (by decide)
    refine lv_aload_n hx hb dL_law_725 rfl (lv_at hl 5 rfl) ?_
    refine lv_iconst (v := 0) hx hb dL_law_726 (by decide) ?_
    refine lx_lald hx hb hK2 hOL dL_law_727 ?_
    refine lv_iload hx hb dL_law_728 (lv_at hl 0 rfl) ?_
    refine lv_i2l hx hb dL_law_730 rfl ?_
    refine W.lcmp hx hb dL_law_731 ?_
    refine lv_if_eq (tgt := 737) hx hb dL_law_732 (by decide) (fun _ => ?_) (fun c8 => absurd ((lg_cmp_eq _ _).mpr (by rw [hp hk0, hrv hk0])) c8)
    refine lv_goto (tgt := 2344) hx hb dL_law_737 (by decide) ?_
    refine W.widen (k := cells + 3) (n := slots + 18) (by omega) (by omega) ?_
    exact kk _ _ _ ⟨σ2, fL, fD, hW, hI2, hOL, hOD⟩ hS (lv_sub hl [2, 3, 4, 5, 6, 7] rfl)
set_option maxHeartbeats 4000000 in
set_option maxRecDepth 100000 in
theorem lc_clear : lx_case 740 := by
  intro p l e s m below meth c H locs cells slots Q ls Y x N b L xs dL dD hC hN hS hJ hl hc hs kk
  obtain ⟨hx, hb, hml, hown, hts, hX, hbl, hL, hxe, hYx, hK, hE, hK2, hK3, hNc, hl9⟩ := hC
  have hT : rc_T Y (w_sh x) (w_rf x) := w_T (Nat.le_of_eq hYx)
  obtain ⟨σ, fL, fD, hW, hI, hOL, hOD⟩ := hJ
  have hN9 : N ≤ 900 := by omega
  obtain ⟨k, r, σ1, cd, v, σ2, e1, e2, hcd, hcd2, hrv, hI2⟩ := i_clear w_X hN9 ((xs (4 * N + 1))) hI
  have hth : f_X9_thrown (w_rf x) (x + 308) σ2 = some (cd, σ2) := by rw [← hcd2]; rfl
  refine lv_aload_n hx hb dL_law_740 rfl (lv_at hl 1 rfl) ?_
  refine lv_aload_n hx hb dL_law_741 rfl (lv_at hl 0 rfl) ?_
  refine lv_iload hx hb dL_law_742 (lv_at hl 5 rfl) ?_
  refine lv_iconst (v := 1) hx hb dL_law_744 (by decide) ?_
  refine lv_iadd hx hb dL_law_745 ?_
  refine lx_sld hx hb hX hbl hxe hL hS (j := 4 * N + 1) (by omega) (nI_add (4 * N) 1) dL_law_746 ?_
  refine lv_aload_n hx hb dL_law_747 rfl (lv_at hl 3 rfl) ?_
  refine lx_wL hxe hS hOD (vx_runSW (As := [.ref x, .int (xs (4 * N + 1)), .ref (x + 316)]) (rest := []) ⟨hx, hb, hml, hown, hts⟩ (k_L_clear l hl9 hT x ((xs (4 * N + 1))) (x + 316) w_sh9 (w_sh0 (by omega)) dL fL H.size _ _ _ _ _ hcd e1) (vx_cwSW 3 hts (rc_gS tw_5_73 tw_5_74 tw_1_0 tw_5_75) rfl rfl rfl (by decide +kernel) ⟨Nat.le_of_ble_eq_true rfl, Nat.le_of_ble_eq_true rfl⟩) (lx_preL hT hW hK hE hS hOL hK2 hNc [.ref x, .int (xs (4 * N + 1)), .ref (x + 316)]) rfl rfl hl.1 rfl (lv_room (Nat.le_of_ble_eq_true rfl)) dL_law_748 ⟨by show cells + 1 ≤ 606338; omega, by show slots + 6 ≤ 7201315; omega⟩) (fun fL H locs hp hW hOL hOD hS => ?_)
  refine lv_istore (lv' := [(6, .int cd), (0, .ref b), (1, .ref x), (2, .ref (x + 308)), (3, .ref (x + 316)), (4, .ref (x + 317)), (5, .int (nI (4 * N)))]) hx hb dL_law_751 hl (by decide) rfl (fun ls hl => ?_)
  refine lv_aload_n hx hb dL_law_753 rfl (lv_at hl 3 rfl) ?_
  refine lv_aload_n hx hb dL_law_754 rfl (lv_at hl 1 rfl) ?_
  refine lv_iload hx hb dL_law_755 (lv_at hl 6 rfl) ?_
  refine lv_iconst (v := 1) hx hb dL_law_757 (by decide) ?_
  refine lv_iadd hx hb dL_law_758 ?_
  refine lx_sld hx hb hX hbl hxe hL hS (j := 4 * N + 1) (by omega) (nI_add (4 * N) 1) dL_law_759 ?_
  refine lx_mi hS hOL hOD (va_runV (As := [.int (xs (4 * N + 1))]) (rest := []) ⟨hx, hb, hml, hown, hts⟩ (k_X9_clear l hT (x + 308) ((xs (4 * N + 1))) w_sh10 H.size _ _ _ e2) (cwV 1 hts (rc_gV tw_8_50 tw_8_51 tw_8_52 tw_1_14 tw_8_53) rfl rfl rfl (by decide +kernel) ⟨Nat.le_of_ble_eq_true rfl, Nat.le_of_ble_eq_true rfl⟩) (rc_preV hT hW hK hE hS w_sh10 (by decide) rfl (q := (RX9, TX9, 22)) rfl [.int (xs (4 * N + 1))]) rfl rfl hl.1 rfl (lv_room (Nat.le_of_ble_eq_true rfl)) dL_law_760 ⟨by show cells + 1 + 0 ≤ 606338; omega, by show slots + 6 + 0 ≤ 7201315; omega⟩) (fun H locs hW hOL hOD hS => ?_)
  refine lv_istore (lv' := [(7, .int v), (6, .int cd), (0, .ref b), (1, .ref x), (2, .ref (x + 308)), (3, .ref (x + 316)), (4, .ref (x + 317)), (5, .int (nI (4 * N)))]) hx hb dL_law_763 hl (by decide) rfl (fun ls hl => ?_)
  refine lv_aload_n hx hb dL_law_765 rfl (lv_at hl 4 rfl) ?_
  refine lx_mi hS hOL hOD (va_runV (As := []) (rest := []) ⟨hx, hb, hml, hown, hts⟩ (k_X9_thrown l hT (x + 308) w_sh10 H.size _ _ _ hth) (cwV 0 hts (rc_gV tw_7_136 tw_7_137 tw_7_138 tw_1_14 tw_7_139) rfl rfl rfl (by decide +kernel) ⟨Nat.le_of_ble_eq_true rfl, Nat.le_of_ble_eq_true rfl⟩) (rc_preV hT hW hK hE hS w_sh10 (by decide) rfl (q := (RX9, TX9, 22)) rfl []) rfl rfl hl.1 rfl (lv_room (Nat.le_of_ble_eq_true rfl)) dL_law_766 ⟨by show cells + 1 + 0 + 0 ≤ 606338; omega, by show slots + 6 + 0 + 0 ≤ 7201315; omega⟩) (fun H locs hW hOL hOD hS => ?_)
  refine lv_iload hx hb dL_law_769 (lv_at hl 1 rfl) ?_
  refine lv_icmp_eq (tgt := 776) hx hb dL_law_771 (by decide) (fun _ => ?_) (fun c9 => absurd rfl c9)
  refine lv_iload hx hb dL_law_776 (lv_at hl 1 rfl) ?_
  refine lv_if_ne (tgt := 793) hx hb dL_law_778 (by decide) (fun c9 => ?_) (fun c9 => ?_)
  · refine lv_goto (tgt := 2344) hx hb dL_law_793 (by decide) ?_
    refine W.widen (k := cells + 3) (n := slots + 18) (by omega) (by omega) ?_
    exact kk _ _ _ ⟨σ2, fL, fD, hW, hI2, hOL, hOD⟩ hS (lv_sub hl [2, 3, 4, 5, 6, 7] rfl)
  · have hk0 : k = 0 := by rcases hcd with ⟨h1, h2⟩ | ⟨h1, h2⟩ <;> first | exact h1 | exact absurd (h2.symm.trans c9) (by decide)
    refine lv_aload_n hx hb dL_law_781 rfl (lv_at hl 5 rfl) ?_
    refine lv_iconst (v := 0) hx hb dL_law_782 (by decide) ?_
    refine lx_lald hx hb hK2 hOL dL_law_783 ?_
    refine lv_iload hx hb dL_law_784 (lv_at hl 0 rfl) ?_
    refine lv_i2l hx hb dL_law_786 rfl ?_
    refine W.lcmp hx hb dL_law_787 ?_
    refine lv_if_eq (tgt := 793) hx hb dL_law_788 (by decide) (fun _ => ?_) (fun c8 => absurd ((lg_cmp_eq _ _).mpr (by rw [hp hk0, hrv hk0])) c8)
    refine lv_goto (tgt := 2344) hx hb dL_law_793 (by decide) ?_
    refine W.widen (k := cells + 3) (n := slots + 18) (by omega) (by omega) ?_
    exact kk _ _ _ ⟨σ2, fL, fD, hW, hI2, hOL, hOD⟩ hS (lv_sub hl [2, 3, 4, 5, 6, 7] rfl)
set_option maxHeartbeats 4000000 in
set_option maxRecDepth 100000 in
theorem lc_year : lx_case 796 := by
  intro p l e s m below meth c H locs cells slots Q ls Y x N b L xs dL dD hC hN hS hJ hl hc hs kk
  obtain ⟨hx, hb, hml, hown, hts, hX, hbl, hL, hxe, hYx, hK, hE, hK2, hK3, hNc, hl9⟩ := hC
  have hT : rc_T Y (w_sh x) (w_rf x) := w_T (Nat.le_of_eq hYx)
  obtain ⟨σ, fL, fD, hW, hI, hOL, hOD⟩ := hJ
  have hN9 : N ≤ 900 := by omega
  obtain ⟨r, σ1, σ2, e1, e2, hI2⟩ := i_year w_X hN9 hI
  refine lv_aload_n hx hb dL_law_796 rfl (lv_at hl 1 rfl) ?_
  refine lx_mi hS hOL hOD (va_runV (As := []) (rest := []) ⟨hx, hb, hml, hown, hts⟩ (k_X8_year l hT x w_sh9 H.size _ _ _ e1) (cwV 0 hts (rc_gV tw_2_113 tw_2_114 tw_2_115 tw_1_1 tw_2_116) rfl rfl rfl (by decide +kernel) ⟨Nat.le_of_ble_eq_true rfl, Nat.le_of_ble_eq_true rfl⟩) (rc_preV hT hW hK hE hS w_sh9 (by decide) rfl (q := (RX8, TX8, 9)) rfl []) rfl rfl hl.1 rfl (lv_room (Nat.le_of_ble_eq_true rfl)) dL_law_797 ⟨by show cells + 0 ≤ 606338; omega, by show slots + 0 ≤ 7201315; omega⟩) (fun H locs hW hOL hOD hS => ?_)
  refine lv_aload_n hx hb dL_law_800 rfl (lv_at hl 2 rfl) ?_
  refine lx_mi hS hOL hOD (va_runV (As := []) (rest := [.int r]) ⟨hx, hb, hml, hown, hts⟩ (k_X9_year l hT (x + 308) w_sh10 H.size _ _ _ e2) (cwV 0 hts (rc_gV tw_8_58 tw_8_59 tw_8_60 tw_1_14 tw_8_61) rfl rfl rfl (by decide +kernel) ⟨Nat.le_of_ble_eq_true rfl, Nat.le_of_ble_eq_true rfl⟩) (rc_preV hT hW hK hE hS w_sh10 (by decide) rfl (q := (RX9, TX9, 22)) rfl []) rfl rfl hl.1 rfl (lv_room (Nat.le_of_ble_eq_true rfl)) dL_law_801 ⟨by show cells + 0 + 0 ≤ 606338; omega, by show slots + 0 + 0 ≤ 7201315; omega⟩) (fun H locs hW hOL hOD hS => ?_)
  refine lv_icmp_eq (tgt := 2344) hx hb dL_law_804 (by decide) (fun _ => ?_) (fun c9 => absurd rfl c9)
  refine W.widen (k := cells + 3) (n := slots + 18) (by omega) (by omega) ?_
  exact kk _ _ _ ⟨σ2, fL, fD, hW, hI2, hOL, hOD⟩ hS (lv_sub hl [0, 1, 2, 3, 4, 5] rfl)
set_option maxHeartbeats 4000000 in
set_option maxRecDepth 100000 in
theorem lc_roofOf : lx_case 809 := by
  intro p l e s m below meth c H locs cells slots Q ls Y x N b L xs dL dD hC hN hS hJ hl hc hs kk
  obtain ⟨hx, hb, hml, hown, hts, hX, hbl, hL, hxe, hYx, hK, hE, hK2, hK3, hNc, hl9⟩ := hC
  have hT : rc_T Y (w_sh x) (w_rf x) := w_T (Nat.le_of_eq hYx)
  obtain ⟨σ, fL, fD, hW, hI, hOL, hOD⟩ := hJ
  have hN9 : N ≤ 900 := by omega
  obtain ⟨k, r, σ1, cd, v, σ2, e1, e2, hcd, hcd2, hrv, hI2⟩ := i_roofOf w_X hN9 ((xs (4 * N + 1))) ((xs (4 * N + 2))) hI
  have hth : f_X9_thrown (w_rf x) (x + 308) σ2 = some (cd, σ2) := by rw [← hcd2]; rfl
  refine lv_aload_n hx hb dL_law_809 rfl (lv_at hl 1 rfl) ?_
  refine lv_aload_n hx hb dL_law_810 rfl (lv_at hl 0 rfl) ?_
  refine lv_iload hx hb dL_law_811 (lv_at hl 5 rfl) ?_
  refine lv_iconst (v := 1) hx hb dL_law_813 (by decide) ?_
  refine lv_iadd hx hb dL_law_814 ?_
  refine lx_sld hx hb hX hbl hxe hL hS (j := 4 * N + 1) (by omega) (nI_add (4 * N) 1) dL_law_815 ?_
  refine lv_aload_n hx hb dL_law_816 rfl (lv_at hl 0 rfl) ?_
  refine lv_iload hx hb dL_law_817 (lv_at hl 5 rfl) ?_
  refine lv_iconst (v := 2) hx hb dL_law_819 (by decide) ?_
  refine lv_iadd hx hb dL_law_820 ?_
  refine lx_sld hx hb hX hbl hxe hL hS (j := 4 * N + 2) (by omega) (nI_add (4 * N) 2) dL_law_821 ?_
  refine lv_aload_n hx hb dL_law_822 rfl (lv_at hl 3 rfl) ?_
  refine lx_wL hxe hS hOD (vx_runSW (As := [.ref x, .int (xs (4 * N + 1)), .int (xs (4 * N + 2)), .ref (x + 316)]) (rest := []) ⟨hx, hb, hml, hown, hts⟩ (k_L_roofOf l hl9 hT x ((xs (4 * N + 1))) ((xs (4 * N + 2))) (x + 316) w_sh9 (w_sh0 (by omega)) dL fL H.size _ _ _ _ _ hcd e1) (vx_cwSW 4 hts (rc_gS tw_5_84 tw_5_85 tw_1_0 tw_5_86) rfl rfl rfl (by decide +kernel) ⟨Nat.le_of_ble_eq_true rfl, Nat.le_of_ble_eq_true rfl⟩) (lx_preL hT hW hK hE hS hOL hK2 hNc [.ref x, .int (xs (4 * N + 1)), .int (xs (4 * N + 2)), .ref (x + 316)]) rfl rfl hl.1 rfl (lv_room (Nat.le_of_ble_eq_true rfl)) dL_law_823 ⟨by show cells + 1 ≤ 606338; omega, by show slots + 6 ≤ 7201315; omega⟩) (fun fL H locs hp hW hOL hOD hS => ?_)
  refine lv_istore (lv' := [(6, .int cd), (0, .ref b), (1, .ref x), (2, .ref (x + 308)), (3, .ref (x + 316)), (4, .ref (x + 317)), (5, .int (nI (4 * N)))]) hx hb dL_law_826 hl (by decide) rfl (fun ls hl => ?_)
  refine lv_aload_n hx hb dL_law_828 rfl (lv_at hl 3 rfl) ?_
  refine lv_aload_n hx hb dL_law_829 rfl (lv_at hl 1 rfl) ?_
  refine lv_iload hx hb dL_law_830 (lv_at hl 6 rfl) ?_
  refine lv_iconst (v := 1) hx hb dL_law_832 (by decide) ?_
  refine lv_iadd hx hb dL_law_833 ?_
  refine lx_sld hx hb hX hbl hxe hL hS (j := 4 * N + 1) (by omega) (nI_add (4 * N) 1) dL_law_834 ?_
  refine lv_aload_n hx hb dL_law_835 rfl (lv_at hl 1 rfl) ?_
  refine lv_iload hx hb dL_law_836 (lv_at hl 6 rfl) ?_
  refine lv_iconst (v := 2) hx hb dL_law_838 (by decide) ?_
  refine lv_iadd hx hb dL_law_839 ?_
  refine lx_sld hx hb hX hbl hxe hL hS (j := 4 * N + 2) (by omega) (nI_add (4 * N) 2) dL_law_840 ?_
  refine lx_mi hS hOL hOD (va_runV (As := [.int (xs (4 * N + 1)), .int (xs (4 * N + 2))]) (rest := []) ⟨hx, hb, hml, hown, hts⟩ (k_X9_roofOf l hT (x + 308) ((xs (4 * N + 1))) ((xs (4 * N + 2))) w_sh10 H.size _ _ _ e2) (cwV 2 hts (rc_gV tw_8_66 tw_8_67 tw_8_68 tw_1_14 tw_8_69) rfl rfl rfl (by decide +kernel) ⟨Nat.le_of_ble_eq_true rfl, Nat.le_of_ble_eq_true rfl⟩) (rc_preV hT hW hK hE hS w_sh10 (by decide) rfl (q := (RX9, TX9, 22)) rfl [.int (xs (4 * N + 1)), .int (xs (4 * N + 2))]) rfl rfl hl.1 rfl (lv_room (Nat.le_of_ble_eq_true rfl)) dL_law_841 ⟨by show cells + 1 + 0 ≤ 606338; omega, by show slots + 6 + 0 ≤ 7201315; omega⟩) (fun H locs hW hOL hOD hS => ?_)
  refine lv_istore (lv' := [(7, .int v), (6, .int cd), (0, .ref b), (1, .ref x), (2, .ref (x + 308)), (3, .ref (x + 316)), (4, .ref (x + 317)), (5, .int (nI (4 * N)))]) hx hb dL_law_844 hl (by decide) rfl (fun ls hl => ?_)
  refine lv_aload_n hx hb dL_law_846 rfl (lv_at hl 4 rfl) ?_
  refine lx_mi hS hOL hOD (va_runV (As := []) (rest := []) ⟨hx, hb, hml, hown, hts⟩ (k_X9_thrown l hT (x + 308) w_sh10 H.size _ _ _ hth) (cwV 0 hts (rc_gV tw_7_136 tw_7_137 tw_7_138 tw_1_14 tw_7_139) rfl rfl rfl (by decide +kernel) ⟨Nat.le_of_ble_eq_true rfl, Nat.le_of_ble_eq_true rfl⟩) (rc_preV hT hW hK hE hS w_sh10 (by decide) rfl (q := (RX9, TX9, 22)) rfl []) rfl rfl hl.1 rfl (lv_room (Nat.le_of_ble_eq_true rfl)) dL_law_847 ⟨by show cells + 1 + 0 + 0 ≤ 606338; omega, by show slots + 6 + 0 + 0 ≤ 7201315; omega⟩) (fun H locs hW hOL hOD hS => ?_)
  refine lv_iload hx hb dL_law_850 (lv_at hl 1 rfl) ?_
  refine lv_icmp_eq (tgt := 857) hx hb dL_law_852 (by decide) (fun _ => ?_) (fun c9 => absurd rfl c9)
  refine lv_iload hx hb dL_law_857 (lv_at hl 1 rfl) ?_
  refine lv_if_ne (tgt := 874) hx hb dL_law_859 (by decide) (fun c9 => ?_) (fun c9 => ?_)
  · refine lv_goto (tgt := 2344) hx hb dL_law_874 (by decide) ?_
    refine W.widen (k := cells + 3) (n := slots + 18) (by omega) (by omega) ?_
    exact kk _ _ _ ⟨σ2, fL, fD, hW, hI2, hOL, hOD⟩ hS (lv_sub hl [2, 3, 4, 5, 6, 7] rfl)
  · have hk0 : k = 0 := by rcases hcd with ⟨h1, h2⟩ | ⟨h1, h2⟩ | ⟨h1, h2⟩ <;> first | exact h1 | exact absurd (h2.symm.trans c9) (by decide)
    refine lv_aload_n hx hb dL_law_862 rfl (lv_at hl 5 rfl) ?_
    refine lv_iconst (v := 0) hx hb dL_law_863 (by decide) ?_
    refine lx_lald hx hb hK2 hOL dL_law_864 ?_
    refine lv_iload hx hb dL_law_865 (lv_at hl 0 rfl) ?_
    refine lv_i2l hx hb dL_law_867 rfl ?_
    refine W.lcmp hx hb dL_law_868 ?_
    refine lv_if_eq (tgt := 874) hx hb dL_law_869 (by decide) (fun _ => ?_) (fun c8 => absurd ((lg_cmp_eq _ _).mpr (by rw [hp hk0, hrv hk0])) c8)
    refine lv_goto (tgt := 2344) hx hb dL_law_874 (by decide) ?_
    refine W.widen (k := cells + 3) (n := slots + 18) (by omega) (by omega) ?_
    exact kk _ _ _ ⟨σ2, fL, fD, hW, hI2, hOL, hOD⟩ hS (lv_sub hl [2, 3, 4, 5, 6, 7] rfl)
set_option maxHeartbeats 4000000 in
set_option maxRecDepth 100000 in
theorem lc_barrelOf : lx_case 877 := by
  intro p l e s m below meth c H locs cells slots Q ls Y x N b L xs dL dD hC hN hS hJ hl hc hs kk
  obtain ⟨hx, hb, hml, hown, hts, hX, hbl, hL, hxe, hYx, hK, hE, hK2, hK3, hNc, hl9⟩ := hC
  have hT : rc_T Y (w_sh x) (w_rf x) := w_T (Nat.le_of_eq hYx)
  obtain ⟨σ, fL, fD, hW, hI, hOL, hOD⟩ := hJ
  have hN9 : N ≤ 900 := by omega
  obtain ⟨k, r, σ1, cd, v, σ2, e1, e2, hcd, hcd2, hrv, hI2⟩ := i_barrelOf w_X hN9 ((xs (4 * N + 1))) ((xs (4 * N + 2))) hI
  have hth : f_X9_thrown (w_rf x) (x + 308) σ2 = some (cd, σ2) := by rw [← hcd2]; rfl
  refine lv_aload_n hx hb dL_law_877 rfl (lv_at hl 1 rfl) ?_
  refine lv_aload_n hx hb dL_law_878 rfl (lv_at hl 0 rfl) ?_
  refine lv_iload hx hb dL_law_879 (lv_at hl 5 rfl) ?_
  refine lv_iconst (v := 1) hx hb dL_law_881 (by decide) ?_
  refine lv_iadd hx hb dL_law_882 ?_
  refine lx_sld hx hb hX hbl hxe hL hS (j := 4 * N + 1) (by omega) (nI_add (4 * N) 1) dL_law_883 ?_
  refine lv_aload_n hx hb dL_law_884 rfl (lv_at hl 0 rfl) ?_
  refine lv_iload hx hb dL_law_885 (lv_at hl 5 rfl) ?_
  refine lv_iconst (v := 2) hx hb dL_law_887 (by decide) ?_
  refine lv_iadd hx hb dL_law_888 ?_
  refine lx_sld hx hb hX hbl hxe hL hS (j := 4 * N + 2) (by omega) (nI_add (4 * N) 2) dL_law_889 ?_
  refine lv_aload_n hx hb dL_law_890 rfl (lv_at hl 3 rfl) ?_
  refine lx_wL hxe hS hOD (vx_runSW (As := [.ref x, .int (xs (4 * N + 1)), .int (xs (4 * N + 2)), .ref (x + 316)]) (rest := []) ⟨hx, hb, hml, hown, hts⟩ (k_L_barrelOf l hl9 hT x ((xs (4 * N + 1))) ((xs (4 * N + 2))) (x + 316) w_sh9 (w_sh0 (by omega)) dL fL H.size _ _ _ _ _ hcd e1) (vx_cwSW 4 hts (rc_gS tw_5_129 tw_5_130 tw_1_0 tw_5_131) rfl rfl rfl (by decide +kernel) ⟨Nat.le_of_ble_eq_true rfl, Nat.le_of_ble_eq_true rfl⟩) (lx_preL hT hW hK hE hS hOL hK2 hNc [.ref x, .int (xs (4 * N + 1)), .int (xs (4 * N + 2)), .ref (x + 316)]) rfl rfl hl.1 rfl (lv_room (Nat.le_of_ble_eq_true rfl)) dL_law_891 ⟨by show cells + 2 ≤ 606338; omega, by show slots + 12 ≤ 7201315; omega⟩) (fun fL H locs hp hW hOL hOD hS => ?_)
  refine lv_istore (lv' := [(6, .int cd), (0, .ref b), (1, .ref x), (2, .ref (x + 308)), (3, .ref (x + 316)), (4, .ref (x + 317)), (5, .int (nI (4 * N)))]) hx hb dL_law_894 hl (by decide) rfl (fun ls hl => ?_)
  refine lv_aload_n hx hb dL_law_896 rfl (lv_at hl 3 rfl) ?_
  refine lv_aload_n hx hb dL_law_897 rfl (lv_at hl 1 rfl) ?_
  refine lv_iload hx hb dL_law_898 (lv_at hl 6 rfl) ?_
  refine lv_iconst (v := 1) hx hb dL_law_900 (by decide) ?_
  refine lv_iadd hx hb dL_law_901 ?_
  refine lx_sld hx hb hX hbl hxe hL hS (j := 4 * N + 1) (by omega) (nI_add (4 * N) 1) dL_law_902 ?_
  refine lv_aload_n hx hb dL_law_903 rfl (lv_at hl 1 rfl) ?_
  refine lv_iload hx hb dL_law_904 (lv_at hl 6 rfl) ?_
  refine lv_iconst (v := 2) hx hb dL_law_906 (by decide) ?_
  refine lv_iadd hx hb dL_law_907 ?_
  refine lx_sld hx hb hX hbl hxe hL hS (j := 4 * N + 2) (by omega) (nI_add (4 * N) 2) dL_law_908 ?_
  refine lx_mi hS hOL hOD (va_runV (As := [.int (xs (4 * N + 1)), .int (xs (4 * N + 2))]) (rest := []) ⟨hx, hb, hml, hown, hts⟩ (k_X9_barrelOf l hT (x + 308) ((xs (4 * N + 1))) ((xs (4 * N + 2))) w_sh10 H.size _ _ _ e2) (cwV 2 hts (rc_gV tw_8_74 tw_8_75 tw_8_76 tw_1_14 tw_8_77) rfl rfl rfl (by decide +kernel) ⟨Nat.le_of_ble_eq_true rfl, Nat.le_of_ble_eq_true rfl⟩) (rc_preV hT hW hK hE hS w_sh10 (by decide) rfl (q := (RX9, TX9, 22)) rfl [.int (xs (4 * N + 1)), .int (xs (4 * N + 2))]) rfl rfl hl.1 rfl (lv_room (Nat.le_of_ble_eq_true rfl)) dL_law_909 ⟨by show cells + 2 + 0 ≤ 606338; omega, by show slots + 12 + 0 ≤ 7201315; omega⟩) (fun H locs hW hOL hOD hS => ?_)
  refine lv_istore (lv' := [(7, .int v), (6, .int cd), (0, .ref b), (1, .ref x), (2, .ref (x + 308)), (3, .ref (x + 316)), (4, .ref (x + 317)), (5, .int (nI (4 * N)))]) hx hb dL_law_912 hl (by decide) rfl (fun ls hl => ?_)
  refine lv_aload_n hx hb dL_law_914 rfl (lv_at hl 4 rfl) ?_
  refine lx_mi hS hOL hOD (va_runV (As := []) (rest := []) ⟨hx, hb, hml, hown, hts⟩ (k_X9_thrown l hT (x + 308) w_sh10 H.size _ _ _ hth) (cwV 0 hts (rc_gV tw_7_136 tw_7_137 tw_7_138 tw_1_14 tw_7_139) rfl rfl rfl (by decide +kernel) ⟨Nat.le_of_ble_eq_true rfl, Nat.le_of_ble_eq_true rfl⟩) (rc_preV hT hW hK hE hS w_sh10 (by decide) rfl (q := (RX9, TX9, 22)) rfl []) rfl rfl hl.1 rfl (lv_room (Nat.le_of_ble_eq_true rfl)) dL_law_915 ⟨by show cells + 2 + 0 + 0 ≤ 606338; omega, by show slots + 12 + 0 + 0 ≤ 7201315; omega⟩) (fun H locs hW hOL hOD hS => ?_)
  refine lv_iload hx hb dL_law_918 (lv_at hl 1 rfl) ?_
  refine lv_icmp_eq (tgt := 925) hx hb dL_law_920 (by decide) (fun _ => ?_) (fun c9 => absurd rfl c9)
  refine lv_iload hx hb dL_law_925 (lv_at hl 1 rfl) ?_
  refine lv_if_ne (tgt := 942) hx hb dL_law_927 (by decide) (fun c9 => ?_) (fun c9 => ?_)
  · refine lv_goto (tgt := 2344) hx hb dL_law_942 (by decide) ?_
    refine W.widen (k := cells + 3) (n := slots + 18) (by omega) (by omega) ?_
    exact kk _ _ _ ⟨σ2, fL, fD, hW, hI2, hOL, hOD⟩ hS (lv_sub hl [2, 3, 4, 5, 6, 7] rfl)
  · have hk0 : k = 0 := by rcases hcd with ⟨h1, h2⟩ | ⟨h1, h2⟩ | ⟨h1, h2⟩ <;> first | exact h1 | exact absurd (h2.symm.trans c9) (by decide)
    refine lv_aload_n hx hb dL_law_930 rfl (lv_at hl 5 rfl) ?_
    refine lv_iconst (v := 0) hx hb dL_law_931 (by decide) ?_
    refine lx_lald hx hb hK2 hOL dL_law_932 ?_
    refine lv_iload hx hb dL_law_933 (lv_at hl 0 rfl) ?_
    refine lv_i2l hx hb dL_law_935 rfl ?_
    refine W.lcmp hx hb dL_law_936 ?_
    refine lv_if_eq (tgt := 942) hx hb dL_law_937 (by decide) (fun _ => ?_) (fun c8 => absurd ((lg_cmp_eq _ _).mpr (by rw [hp hk0, hrv hk0])) c8)
    refine lv_goto (tgt := 2344) hx hb dL_law_942 (by decide) ?_
    refine W.widen (k := cells + 3) (n := slots + 18) (by omega) (by omega) ?_
    exact kk _ _ _ ⟨σ2, fL, fD, hW, hI2, hOL, hOD⟩ hS (lv_sub hl [2, 3, 4, 5, 6, 7] rfl)
