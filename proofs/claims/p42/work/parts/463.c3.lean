def g_X2_init : rl_L := rl_r (rl_c (rl_r (rl_c (rl_r (rl_c (rl_r (rl_c (rl_r (rl_c (rl_r (rl_c (rl_r (rl_c (rl_r (rl_c (rl_r (rl_c (rl_i (rl_i (rl_r (rl_n (rl_0 3) 1 26) 0 0 1) 0 1 0) 0 2 0) 2 g_X1_init) 1 0 2) 29 g_X1_init) 1 1 29) 56 g_X1_init) 1 2 56) 83 g_X1_init) 1 3 83) 110 g_X1_init) 1 4 110) 137 g_X1_init) 1 5 137) 164 g_X1_init) 1 6 164) 191 g_X1_init) 1 7 191) 218 g_X1_init) 1 8 218
set_option maxHeartbeats 8000000 in
set_option maxRecDepth 100000 in
theorem kc_X2_init (l : Launch) {Y : rc_Y} (ω : rc_O) (x : Nat) (hx0 : Y.1 ≤ x) : Met l yX2_init (Cond.code yX2_init cX2_init 2 none :: rc_big) ({ frames := 3, cells := 244, slots := 1206, locals := 53 } : Room) (rl_P Y ω x 3 [.ref x]) (va_Qv (fun _ : Unit => True) (rl_B Y ω x g_X2_init 245) (fun q => x ≤ q)) 244 1206 (fun q => x ≤ q) := by
  refine Met.ofW (cc := cX2_init) (maxL := 2) (ret := none) (by decide +kernel) rfl ?_
  intro p e s m args below meth c s₁ B hml hv
  obtain ⟨rfl, hz, hV, hK, hE, hA⟩ := hv
  have hx := B.exec
  have hb := B.bytes
  have hr := B.returns
  have hts : ∀ w ∈ rc_big, w.before _ s = true := fun w h => atoms_spec (ws := Cond.code yX2_init cX2_init 2 none :: rc_big) B.pre w (List.mem_cons_of_mem _ h)
  have hown : s.vm.findClass RX2 = some m.cls := findClass_of_methodNamed B.named
  have hin : meth.name = "<init>" := (name_of_methodNamed B.named B.method).1
  have hlocks := B.notSynchronized
  clear B
  have hS : va_S (fun q => x ≤ q) s.heap s.heap [] := va_S.rf
  have hl := lv_entry ([.ref x]) (n := 2) (Nat.le_of_ble_eq_true rfl)
  rw [lg_entry_eq]
  generalize (lg_sl ([.ref x]) ++ List.replicate (2 - (lg_sl ([.ref x])).length) Slot.unset).toArray = ls at hl ⊢
  have hl : lv_has ls 2 [(0, .ref x)] := hl
  refine lv_aload_n hx hb dX2_init_0 rfl (lv_at hl 0 rfl) ?_
  refine W.objInit hx hb hown (hts _ tw_2_2) (hts _ tw_1_40) (hts _ tw_1_41) rfl (by rw [hml]; exact hl.1) rfl dX2_init_1 (Nat.le_of_ble_eq_true rfl) (Nat.le_of_ble_eq_true rfl) ?_
  refine W.eq (g2 := F0 m 4 ls []) rfl ?_
  refine lv_aload_n hx hb dX2_init_4 rfl (lv_at hl 0 rfl) ?_
  refine lv_bipush (v := 9) hx hb dX2_init_5 (by decide) ?_
  refine rl_newq hx hb hown (hts _ tw_2_3) hA.2.1 hK hV hz hS 5 rfl 26 (N' := 9) rfl (by decide) (by decide) (by decide) (Nat.le_of_ble_eq_true rfl) (Nat.le_of_ble_eq_true rfl) dX2_init_7 (fun H hV hz hS => ?_)
  refine pr_3_0 (j := 0) (o := 1) hx hb hts hown hK hV hz hS hin (by decide) (by decide +kernel) tw_2_6 dX2_init_10 (fun H locs hV hz hS => ?_)
  refine lv_aload_n hx hb dX2_init_13 rfl (lv_at hl 0 rfl) ?_
  refine lv_iconst (v := 0) hx hb dX2_init_14 (by decide) ?_
  refine pi_3_1 (j := 0) hx hb hts hown hK hV hz hS (by decide +kernel) tw_2_7 dX2_init_15 (fun H locs hV hz hS => ?_)
  refine lv_aload_n hx hb dX2_init_18 rfl (lv_at hl 0 rfl) ?_
  refine lv_iconst (v := 0) hx hb dX2_init_19 (by decide) ?_
  refine pi_3_2 (j := 0) hx hb hts hown hK hV hz hS (by decide +kernel) tw_2_8 dX2_init_20 (fun H locs hV hz hS => ?_)
  refine lv_iconst (v := 0) hx hb dX2_init_23 (by decide) ?_
  refine lv_istore_n (lv' := [(1, .int (0 : Int32)), (0, .ref x)]) hx hb dX2_init_24 rfl hl (by decide) rfl (fun ls hl => ?_)
  refine lv_iload_n hx hb dX2_init_25 rfl (lv_at hl 0 rfl) ?_
  refine lv_bipush (v := 9) hx hb dX2_init_26 (by decide) ?_
  refine lv_icmp_ge (tgt := 50) hx hb dX2_init_28 (by decide) (fun c9 => absurd c9 (by decide)) (fun _ => ?_)
  refine lv_aload_n hx hb dX2_init_31 rfl (lv_at hl 1 rfl) ?_
  refine pg_3_0 (j := 0) (o := 1) hx hb hts hown hK hV (by decide) (by decide +kernel) (by decide +kernel) tw_2_6 dX2_init_32 ?_
  refine lv_iload_n hx hb dX2_init_35 rfl (lv_at hl 0 rfl) ?_
  refine pn_2 hx hb hts hown tw_2_3 tw_1_49 tw_1_3 hK hV hz hS (Nat.le_of_ble_eq_true rfl) (Nat.le_of_ble_eq_true rfl) dX2_init_36 (fun H hV hz hS => ?_)
  refine lv_dup hx hb dX2_init_39 rfl ?_
  refine rl_call (n := 2) (N := 27) (M := g_X1_init) (va_runI (As := []) (rest := [.ref (x + 2), .int (0 : Int32), .ref (x + 1)]) ⟨hx, hb, hml, hown, hts⟩ (kc_X1_init l (rl_o ω x _) (x + 2) (Nat.le_trans hx0 (Nat.le_add_right x 2))) (cwI 0 hts (rc_gI tw_1_52) rfl rfl rfl (hts _ tw_1_3) (hts _ tw_2_5) (hts _ tw_1_51) rfl (by decide +kernel) ⟨Nat.le_of_ble_eq_true rfl, Nat.le_of_ble_eq_true rfl⟩) (rl_pre hx0 hK hE hA hV hz hS [.ref (x + 2)]) rfl rfl hl.1 rfl (lv_room (Nat.le_of_ble_eq_true rfl)) dX2_init_40 ⟨Nat.le_of_ble_eq_true rfl, Nat.le_of_ble_eq_true rfl⟩) (Nat.le_add_right x 2) hS (fun H locs hV hz hS => ?_)
  refine rl_aast (j := 1) (t := 26) (n' := 9) (r := (RX1, TX1, 14)) hx hb hK hV hz hS (by decide +kernel) (by decide) (fun _ _ => rfl) 5 rfl (o := 2) (tv := 2) (ci := 5) (k := 0) (by decide) (by decide +kernel) (by decide) rfl rfl (rc_inD (by decide)) (by decide) dX2_init_43 (fun H locs hV hz hS => ?_)
  refine lv_iinc (v := (1 : Int32)) (lv' := [(1, .int (1 : Int32)), (0, .ref x)]) hx hb dX2_init_44 hl (k := 0) rfl (by decide) (by decide) rfl (fun ls hl => ?_)
  refine lv_goto (tgt := 25) hx hb dX2_init_47 (by decide) ?_
  refine lv_iload_n hx hb dX2_init_25 rfl (lv_at hl 0 rfl) ?_
  refine lv_bipush (v := 9) hx hb dX2_init_26 (by decide) ?_
  refine lv_icmp_ge (tgt := 50) hx hb dX2_init_28 (by decide) (fun c9 => absurd c9 (by decide)) (fun _ => ?_)
  refine lv_aload_n hx hb dX2_init_31 rfl (lv_at hl 1 rfl) ?_
  refine pg_3_0 (j := 0) (o := 1) hx hb hts hown hK hV (by decide) (by decide +kernel) (by decide +kernel) tw_2_6 dX2_init_32 ?_
  refine lv_iload_n hx hb dX2_init_35 rfl (lv_at hl 0 rfl) ?_
  refine pn_2 hx hb hts hown tw_2_3 tw_1_49 tw_1_3 hK hV hz hS (Nat.le_of_ble_eq_true rfl) (Nat.le_of_ble_eq_true rfl) dX2_init_36 (fun H hV hz hS => ?_)
  refine lv_dup hx hb dX2_init_39 rfl ?_
  refine rl_call (n := 29) (N := 27) (M := g_X1_init) (va_runI (As := []) (rest := [.ref (x + 29), .int (1 : Int32), .ref (x + 1)]) ⟨hx, hb, hml, hown, hts⟩ (kc_X1_init l (rl_o ω x _) (x + 29) (Nat.le_trans hx0 (Nat.le_add_right x 29))) (cwI 0 hts (rc_gI tw_1_52) rfl rfl rfl (hts _ tw_1_3) (hts _ tw_2_5) (hts _ tw_1_51) rfl (by decide +kernel) ⟨Nat.le_of_ble_eq_true rfl, Nat.le_of_ble_eq_true rfl⟩) (rl_pre hx0 hK hE hA hV hz hS [.ref (x + 29)]) rfl rfl hl.1 rfl (lv_room (Nat.le_of_ble_eq_true rfl)) dX2_init_40 ⟨Nat.le_of_ble_eq_true rfl, Nat.le_of_ble_eq_true rfl⟩) (Nat.le_add_right x 29) hS (fun H locs hV hz hS => ?_)
  refine rl_aast (j := 1) (t := 26) (n' := 9) (r := (RX1, TX1, 14)) hx hb hK hV hz hS (by decide +kernel) (by decide) (fun _ _ => rfl) 5 rfl (o := 29) (tv := 2) (ci := 5) (k := 1) (by decide) (by decide +kernel) (by decide) rfl rfl (rc_inD (by decide)) (by decide) dX2_init_43 (fun H locs hV hz hS => ?_)
  refine lv_iinc (v := (2 : Int32)) (lv' := [(1, .int (2 : Int32)), (0, .ref x)]) hx hb dX2_init_44 hl (k := 0) rfl (by decide) (by decide) rfl (fun ls hl => ?_)
  refine lv_goto (tgt := 25) hx hb dX2_init_47 (by decide) ?_
  refine lv_iload_n hx hb dX2_init_25 rfl (lv_at hl 0 rfl) ?_
  refine lv_bipush (v := 9) hx hb dX2_init_26 (by decide) ?_
  refine lv_icmp_ge (tgt := 50) hx hb dX2_init_28 (by decide) (fun c9 => absurd c9 (by decide)) (fun _ => ?_)
  refine lv_aload_n hx hb dX2_init_31 rfl (lv_at hl 1 rfl) ?_
  refine pg_3_0 (j := 0) (o := 1) hx hb hts hown hK hV (by decide) (by decide +kernel) (by decide +kernel) tw_2_6 dX2_init_32 ?_
  refine lv_iload_n hx hb dX2_init_35 rfl (lv_at hl 0 rfl) ?_
  refine pn_2 hx hb hts hown tw_2_3 tw_1_49 tw_1_3 hK hV hz hS (Nat.le_of_ble_eq_true rfl) (Nat.le_of_ble_eq_true rfl) dX2_init_36 (fun H hV hz hS => ?_)
  refine lv_dup hx hb dX2_init_39 rfl ?_
  refine rl_call (n := 56) (N := 27) (M := g_X1_init) (va_runI (As := []) (rest := [.ref (x + 56), .int (2 : Int32), .ref (x + 1)]) ⟨hx, hb, hml, hown, hts⟩ (kc_X1_init l (rl_o ω x _) (x + 56) (Nat.le_trans hx0 (Nat.le_add_right x 56))) (cwI 0 hts (rc_gI tw_1_52) rfl rfl rfl (hts _ tw_1_3) (hts _ tw_2_5) (hts _ tw_1_51) rfl (by decide +kernel) ⟨Nat.le_of_ble_eq_true rfl, Nat.le_of_ble_eq_true rfl⟩) (rl_pre hx0 hK hE hA hV hz hS [.ref (x + 56)]) rfl rfl hl.1 rfl (lv_room (Nat.le_of_ble_eq_true rfl)) dX2_init_40 ⟨Nat.le_of_ble_eq_true rfl, Nat.le_of_ble_eq_true rfl⟩) (Nat.le_add_right x 56) hS (fun H locs hV hz hS => ?_)
  refine rl_aast (j := 1) (t := 26) (n' := 9) (r := (RX1, TX1, 14)) hx hb hK hV hz hS (by decide +kernel) (by decide) (fun _ _ => rfl) 5 rfl (o := 56) (tv := 2) (ci := 5) (k := 2) (by decide) (by decide +kernel) (by decide) rfl rfl (rc_inD (by decide)) (by decide) dX2_init_43 (fun H locs hV hz hS => ?_)
  refine lv_iinc (v := (3 : Int32)) (lv' := [(1, .int (3 : Int32)), (0, .ref x)]) hx hb dX2_init_44 hl (k := 0) rfl (by decide) (by decide) rfl (fun ls hl => ?_)
  refine lv_goto (tgt := 25) hx hb dX2_init_47 (by decide) ?_
  refine lv_iload_n hx hb dX2_init_25 rfl (lv_at hl 0 rfl) ?_
  refine lv_bipush (v := 9) hx hb dX2_init_26 (by decide) ?_
  refine lv_icmp_ge (tgt := 50) hx hb dX2_init_28 (by decide) (fun c9 => absurd c9 (by decide)) (fun _ => ?_)
  refine lv_aload_n hx hb dX2_init_31 rfl (lv_at hl 1 rfl) ?_
  refine pg_3_0 (j := 0) (o := 1) hx hb hts hown hK hV (by decide) (by decide +kernel) (by decide +kernel) tw_2_6 dX2_init_32 ?_
  refine lv_iload_n hx hb dX2_init_35 rfl (lv_at hl 0 rfl) ?_
  refine pn_2 hx hb hts hown tw_2_3 tw_1_49 tw_1_3 hK hV hz hS (Nat.le_of_ble_eq_true rfl) (Nat.le_of_ble_eq_true rfl) dX2_init_36 (fun H hV hz hS => ?_)
  refine lv_dup hx hb dX2_init_39 rfl ?_
  refine rl_call (n := 83) (N := 27) (M := g_X1_init) (va_runI (As := []) (rest := [.ref (x + 83), .int (3 : Int32), .ref (x + 1)]) ⟨hx, hb, hml, hown, hts⟩ (kc_X1_init l (rl_o ω x _) (x + 83) (Nat.le_trans hx0 (Nat.le_add_right x 83))) (cwI 0 hts (rc_gI tw_1_52) rfl rfl rfl (hts _ tw_1_3) (hts _ tw_2_5) (hts _ tw_1_51) rfl (by decide +kernel) ⟨Nat.le_of_ble_eq_true rfl, Nat.le_of_ble_eq_true rfl⟩) (rl_pre hx0 hK hE hA hV hz hS [.ref (x + 83)]) rfl rfl hl.1 rfl (lv_room (Nat.le_of_ble_eq_true rfl)) dX2_init_40 ⟨Nat.le_of_ble_eq_true rfl, Nat.le_of_ble_eq_true rfl⟩) (Nat.le_add_right x 83) hS (fun H locs hV hz hS => ?_)
  refine rl_aast (j := 1) (t := 26) (n' := 9) (r := (RX1, TX1, 14)) hx hb hK hV hz hS (by decide +kernel) (by decide) (fun _ _ => rfl) 5 rfl (o := 83) (tv := 2) (ci := 5) (k := 3) (by decide) (by decide +kernel) (by decide) rfl rfl (rc_inD (by decide)) (by decide) dX2_init_43 (fun H locs hV hz hS => ?_)
  refine lv_iinc (v := (4 : Int32)) (lv' := [(1, .int (4 : Int32)), (0, .ref x)]) hx hb dX2_init_44 hl (k := 0) rfl (by decide) (by decide) rfl (fun ls hl => ?_)
  refine lv_goto (tgt := 25) hx hb dX2_init_47 (by decide) ?_
  refine lv_iload_n hx hb dX2_init_25 rfl (lv_at hl 0 rfl) ?_
  refine lv_bipush (v := 9) hx hb dX2_init_26 (by decide) ?_
  refine lv_icmp_ge (tgt := 50) hx hb dX2_init_28 (by decide) (fun c9 => absurd c9 (by decide)) (fun _ => ?_)
  refine lv_aload_n hx hb dX2_init_31 rfl (lv_at hl 1 rfl) ?_
  refine pg_3_0 (j := 0) (o := 1) hx hb hts hown hK hV (by decide) (by decide +kernel) (by decide +kernel) tw_2_6 dX2_init_32 ?_
  refine lv_iload_n hx hb dX2_init_35 rfl (lv_at hl 0 rfl) ?_
  refine pn_2 hx hb hts hown tw_2_3 tw_1_49 tw_1_3 hK hV hz hS (Nat.le_of_ble_eq_true rfl) (Nat.le_of_ble_eq_true rfl) dX2_init_36 (fun H hV hz hS => ?_)
  refine lv_dup hx hb dX2_init_39 rfl ?_
  refine rl_call (n := 110) (N := 27) (M := g_X1_init) (va_runI (As := []) (rest := [.ref (x + 110), .int (4 : Int32), .ref (x + 1)]) ⟨hx, hb, hml, hown, hts⟩ (kc_X1_init l (rl_o ω x _) (x + 110) (Nat.le_trans hx0 (Nat.le_add_right x 110))) (cwI 0 hts (rc_gI tw_1_52) rfl rfl rfl (hts _ tw_1_3) (hts _ tw_2_5) (hts _ tw_1_51) rfl (by decide +kernel) ⟨Nat.le_of_ble_eq_true rfl, Nat.le_of_ble_eq_true rfl⟩) (rl_pre hx0 hK hE hA hV hz hS [.ref (x + 110)]) rfl rfl hl.1 rfl (lv_room (Nat.le_of_ble_eq_true rfl)) dX2_init_40 ⟨Nat.le_of_ble_eq_true rfl, Nat.le_of_ble_eq_true rfl⟩) (Nat.le_add_right x 110) hS (fun H locs hV hz hS => ?_)
  refine rl_aast (j := 1) (t := 26) (n' := 9) (r := (RX1, TX1, 14)) hx hb hK hV hz hS (by decide +kernel) (by decide) (fun _ _ => rfl) 5 rfl (o := 110) (tv := 2) (ci := 5) (k := 4) (by decide) (by decide +kernel) (by decide) rfl rfl (rc_inD (by decide)) (by decide) dX2_init_43 (fun H locs hV hz hS => ?_)
  refine lv_iinc (v := (5 : Int32)) (lv' := [(1, .int (5 : Int32)), (0, .ref x)]) hx hb dX2_init_44 hl (k := 0) rfl (by decide) (by decide) rfl (fun ls hl => ?_)
  refine lv_goto (tgt := 25) hx hb dX2_init_47 (by decide) ?_
  refine lv_iload_n hx hb dX2_init_25 rfl (lv_at hl 0 rfl) ?_
  refine lv_bipush (v := 9) hx hb dX2_init_26 (by decide) ?_
  refine lv_icmp_ge (tgt := 50) hx hb dX2_init_28 (by decide) (fun c9 => absurd c9 (by decide)) (fun _ => ?_)
  refine lv_aload_n hx hb dX2_init_31 rfl (lv_at hl 1 rfl) ?_
  refine pg_3_0 (j := 0) (o := 1) hx hb hts hown hK hV (by decide) (by decide +kernel) (by decide +kernel) tw_2_6 dX2_init_32 ?_
  refine lv_iload_n hx hb dX2_init_35 rfl (lv_at hl 0 rfl) ?_
  refine pn_2 hx hb hts hown tw_2_3 tw_1_49 tw_1_3 hK hV hz hS (Nat.le_of_ble_eq_true rfl) (Nat.le_of_ble_eq_true rfl) dX2_init_36 (fun H hV hz hS => ?_)
  refine lv_dup hx hb dX2_init_39 rfl ?_
  refine rl_call (n := 137) (N := 27) (M := g_X1_init) (va_runI (As := []) (rest := [.ref (x + 137), .int (5 : Int32), .ref (x + 1)]) ⟨hx, hb, hml, hown, hts⟩ (kc_X1_init l (rl_o ω x _) (x + 137) (Nat.le_trans hx0 (Nat.le_add_right x 137))) (cwI 0 hts (rc_gI tw_1_52) rfl rfl rfl (hts _ tw_1_3) (hts _ tw_2_5) (hts _ tw_1_51) rfl (by decide +kernel) ⟨Nat.le_of_ble_eq_true rfl, Nat.le_of_ble_eq_true rfl⟩) (rl_pre hx0 hK hE hA hV hz hS [.ref (x + 137)]) rfl rfl hl.1 rfl (lv_room (Nat.le_of_ble_eq_true rfl)) dX2_init_40 ⟨Nat.le_of_ble_eq_true rfl, Nat.le_of_ble_eq_true rfl⟩) (Nat.le_add_right x 137) hS (fun H locs hV hz hS => ?_)
  refine rl_aast (j := 1) (t := 26) (n' := 9) (r := (RX1, TX1, 14)) hx hb hK hV hz hS (by decide +kernel) (by decide) (fun _ _ => rfl) 5 rfl (o := 137) (tv := 2) (ci := 5) (k := 5) (by decide) (by decide +kernel) (by decide) rfl rfl (rc_inD (by decide)) (by decide) dX2_init_43 (fun H locs hV hz hS => ?_)
  refine lv_iinc (v := (6 : Int32)) (lv' := [(1, .int (6 : Int32)), (0, .ref x)]) hx hb dX2_init_44 hl (k := 0) rfl (by decide) (by decide) rfl (fun ls hl => ?_)
  refine lv_goto (tgt := 25) hx hb dX2_init_47 (by decide) ?_
  refine lv_iload_n hx hb dX2_init_25 rfl (lv_at hl 0 rfl) ?_
  refine lv_bipush (v := 9) hx hb dX2_init_26 (by decide) ?_
  refine lv_icmp_ge (tgt := 50) hx hb dX2_init_28 (by decide) (fun c9 => absurd c9 (by decide)) (fun _ => ?_)
  refine lv_aload_n hx hb dX2_init_31 rfl (lv_at hl 1 rfl) ?_
  refine pg_3_0 (j := 0) (o := 1) hx hb hts hown hK hV (by decide) (by decide +kernel) (by decide +kernel) tw_2_6 dX2_init_32 ?_
  refine lv_iload_n hx hb dX2_init_35 rfl (lv_at hl 0 rfl) ?_
  refine pn_2 hx hb hts hown tw_2_3 tw_1_49 tw_1_3 hK hV hz hS (Nat.le_of_ble_eq_true rfl) (Nat.le_of_ble_eq_true rfl) dX2_init_36 (fun H hV hz hS => ?_)
  refine lv_dup hx hb dX2_init_39 rfl ?_
  refine rl_call (n := 164) (N := 27) (M := g_X1_init) (va_runI (As := []) (rest := [.ref (x + 164), .int (6 : Int32), .ref (x + 1)]) ⟨hx, hb, hml, hown, hts⟩ (kc_X1_init l (rl_o ω x _) (x + 164) (Nat.le_trans hx0 (Nat.le_add_right x 164))) (cwI 0 hts (rc_gI tw_1_52) rfl rfl rfl (hts _ tw_1_3) (hts _ tw_2_5) (hts _ tw_1_51) rfl (by decide +kernel) ⟨Nat.le_of_ble_eq_true rfl, Nat.le_of_ble_eq_true rfl⟩) (rl_pre hx0 hK hE hA hV hz hS [.ref (x + 164)]) rfl rfl hl.1 rfl (lv_room (Nat.le_of_ble_eq_true rfl)) dX2_init_40 ⟨Nat.le_of_ble_eq_true rfl, Nat.le_of_ble_eq_true rfl⟩) (Nat.le_add_right x 164) hS (fun H locs hV hz hS => ?_)
  refine rl_aast (j := 1) (t := 26) (n' := 9) (r := (RX1, TX1, 14)) hx hb hK hV hz hS (by decide +kernel) (by decide) (fun _ _ => rfl) 5 rfl (o := 164) (tv := 2) (ci := 5) (k := 6) (by decide) (by decide +kernel) (by decide) rfl rfl (rc_inD (by decide)) (by decide) dX2_init_43 (fun H locs hV hz hS => ?_)
  refine lv_iinc (v := (7 : Int32)) (lv' := [(1, .int (7 : Int32)), (0, .ref x)]) hx hb dX2_init_44 hl (k := 0) rfl (by decide) (by decide) rfl (fun ls hl => ?_)
  refine lv_goto (tgt := 25) hx hb dX2_init_47 (by decide) ?_
  refine lv_iload_n hx hb dX2_init_25 rfl (lv_at hl 0 rfl) ?_
  refine lv_bipush (v := 9) hx hb dX2_init_26 (by decide) ?_
  refine lv_icmp_ge (tgt := 50) hx hb dX2_init_28 (by decide) (fun c9 => absurd c9 (by decide)) (fun _ => ?_)
  refine lv_aload_n hx hb dX2_init_31 rfl (lv_at hl 1 rfl) ?_
  refine pg_3_0 (j := 0) (o := 1) hx hb hts hown hK hV (by decide) (by decide +kernel) (by decide +kernel) tw_2_6 dX2_init_32 ?_
  refine lv_iload_n hx hb dX2_init_35 rfl (lv_at hl 0 rfl) ?_
  refine pn_2 hx hb hts hown tw_2_3 tw_1_49 tw_1_3 hK hV hz hS (Nat.le_of_ble_eq_true rfl) (Nat.le_of_ble_eq_true rfl) dX2_init_36 (fun H hV hz hS => ?_)
  refine lv_dup hx hb dX2_init_39 rfl ?_
  refine rl_call (n := 191) (N := 27) (M := g_X1_init) (va_runI (As := []) (rest := [.ref (x + 191), .int (7 : Int32), .ref (x + 1)]) ⟨hx, hb, hml, hown, hts⟩ (kc_X1_init l (rl_o ω x _) (x + 191) (Nat.le_trans hx0 (Nat.le_add_right x 191))) (cwI 0 hts (rc_gI tw_1_52) rfl rfl rfl (hts _ tw_1_3) (hts _ tw_2_5) (hts _ tw_1_51) rfl (by decide +kernel) ⟨Nat.le_of_ble_eq_true rfl, Nat.le_of_ble_eq_true rfl⟩) (rl_pre hx0 hK hE hA hV hz hS [.ref (x + 191)]) rfl rfl hl.1 rfl (lv_room (Nat.le_of_ble_eq_true rfl)) dX2_init_40 ⟨Nat.le_of_ble_eq_true rfl, Nat.le_of_ble_eq_true rfl⟩) (Nat.le_add_right x 191) hS (fun H locs hV hz hS => ?_)
  refine rl_aast (j := 1) (t := 26) (n' := 9) (r := (RX1, TX1, 14)) hx hb hK hV hz hS (by decide +kernel) (by decide) (fun _ _ => rfl) 5 rfl (o := 191) (tv := 2) (ci := 5) (k := 7) (by decide) (by decide +kernel) (by decide) rfl rfl (rc_inD (by decide)) (by decide) dX2_init_43 (fun H locs hV hz hS => ?_)
  refine lv_iinc (v := (8 : Int32)) (lv' := [(1, .int (8 : Int32)), (0, .ref x)]) hx hb dX2_init_44 hl (k := 0) rfl (by decide) (by decide) rfl (fun ls hl => ?_)
  refine lv_goto (tgt := 25) hx hb dX2_init_47 (by decide) ?_
  refine lv_iload_n hx hb dX2_init_25 rfl (lv_at hl 0 rfl) ?_
  refine lv_bipush (v := 9) hx hb dX2_init_26 (by decide) ?_
  refine lv_icmp_ge (tgt := 50) hx hb dX2_init_28 (by decide) (fun c9 => absurd c9 (by decide)) (fun _ => ?_)
  refine lv_aload_n hx hb dX2_init_31 rfl (lv_at hl 1 rfl) ?_
  refine pg_3_0 (j := 0) (o := 1) hx hb hts hown hK hV (by decide) (by decide +kernel) (by decide +kernel) tw_2_6 dX2_init_32 ?_
  refine lv_iload_n hx hb dX2_init_35 rfl (lv_at hl 0 rfl) ?_
  refine pn_2 hx hb hts hown tw_2_3 tw_1_49 tw_1_3 hK hV hz hS (Nat.le_of_ble_eq_true rfl) (Nat.le_of_ble_eq_true rfl) dX2_init_36 (fun H hV hz hS => ?_)
  refine lv_dup hx hb dX2_init_39 rfl ?_
  refine rl_call (n := 218) (N := 27) (M := g_X1_init) (va_runI (As := []) (rest := [.ref (x + 218), .int (8 : Int32), .ref (x + 1)]) ⟨hx, hb, hml, hown, hts⟩ (kc_X1_init l (rl_o ω x _) (x + 218) (Nat.le_trans hx0 (Nat.le_add_right x 218))) (cwI 0 hts (rc_gI tw_1_52) rfl rfl rfl (hts _ tw_1_3) (hts _ tw_2_5) (hts _ tw_1_51) rfl (by decide +kernel) ⟨Nat.le_of_ble_eq_true rfl, Nat.le_of_ble_eq_true rfl⟩) (rl_pre hx0 hK hE hA hV hz hS [.ref (x + 218)]) rfl rfl hl.1 rfl (lv_room (Nat.le_of_ble_eq_true rfl)) dX2_init_40 ⟨Nat.le_of_ble_eq_true rfl, Nat.le_of_ble_eq_true rfl⟩) (Nat.le_add_right x 218) hS (fun H locs hV hz hS => ?_)
  refine rl_aast (j := 1) (t := 26) (n' := 9) (r := (RX1, TX1, 14)) hx hb hK hV hz hS (by decide +kernel) (by decide) (fun _ _ => rfl) 5 rfl (o := 218) (tv := 2) (ci := 5) (k := 8) (by decide) (by decide +kernel) (by decide) rfl rfl (rc_inD (by decide)) (by decide) dX2_init_43 (fun H locs hV hz hS => ?_)
  refine lv_iinc (v := (9 : Int32)) (lv' := [(1, .int (9 : Int32)), (0, .ref x)]) hx hb dX2_init_44 hl (k := 0) rfl (by decide) (by decide) rfl (fun ls hl => ?_)
  refine lv_goto (tgt := 25) hx hb dX2_init_47 (by decide) ?_
  refine lv_iload_n hx hb dX2_init_25 rfl (lv_at hl 0 rfl) ?_
  refine lv_bipush (v := 9) hx hb dX2_init_26 (by decide) ?_
  refine lv_icmp_ge (tgt := 50) hx hb dX2_init_28 (by decide) (fun _ => ?_) (fun c9 => absurd c9 (by decide))
  exact rl_vret (M := g_X2_init) (N := 245) (mc := 244) (ms := 1206) hx hb hr hlocks hV hz hS dX2_init_50
def g_J5_init_d00df : rl_L := rl_i (rl_r (rl_n (rl_0 11) 1 24) 0 0 1) 0 1 0
set_option maxHeartbeats 8000000 in
set_option maxRecDepth 100000 in
theorem kc_J5_init_d00df (l : Launch) {Y : rc_Y} (ω : rc_O) (x : Nat) (hx0 : Y.1 ≤ x) : Met l yJ5_init_d00df (Cond.code yJ5_init_d00df cJ5_init_d00df 2 none :: rc_big) ({ frames := 1, cells := 1, slots := 16, locals := 12 } : Room) (rl_P Y ω x 11 [.ref x, .int (16 : Int32)]) (va_Qv (fun _ : Unit => True) (rl_B Y ω x g_J5_init_d00df 2) (fun q => x ≤ q)) 1 16 (fun q => x ≤ q) := by
  refine rc_ofWF (cc := cJ5_init_d00df) (maxL := 2) (ret := none) (by decide +kernel) rfl ?_
  intro p e s m args below meth c s₁ B hml hv
  obtain ⟨rfl, hz, hV, hK, hE, hA⟩ := hv
  have hx := B.exec
  have hb := B.bytes
  have hr := B.returns
  have hts : ∀ w ∈ rc_big, w.before _ s = true := fun w h => atoms_spec (ws := Cond.code yJ5_init_d00df cJ5_init_d00df 2 none :: rc_big) B.pre w (List.mem_cons_of_mem _ h)
  have hown : s.vm.findClass RJ5 = some m.cls := findClass_of_methodNamed B.named
  have hin : meth.name = "<init>" := (name_of_methodNamed B.named B.method).1
  have hlocks := B.notSynchronized
  clear B
  have hS : va_S (fun q => x ≤ q) s.heap s.heap [] := va_S.rf
  have hl := lv_entry ([.ref x, .int (16 : Int32)]) (n := 2) (Nat.le_of_ble_eq_true rfl)
  rw [lg_entry_eq]
  generalize (lg_sl ([.ref x, .int (16 : Int32)]) ++ List.replicate (2 - (lg_sl ([.ref x, .int (16 : Int32)])).length) Slot.unset).toArray = ls at hl ⊢
  have hl : lv_has ls 2 [(0, .ref x), (1, .int (16 : Int32))] := hl
  refine lv_aload_n hx hb dJ5_init_d00df_0 rfl (lv_at hl 0 rfl) ?_
  refine W.objInit hx hb hown (hts _ tw_2_57) (hts _ tw_1_40) (hts _ tw_1_41) rfl (by rw [hml]; exact hl.1) rfl dJ5_init_d00df_1 (Nat.le_of_ble_eq_true rfl) (Nat.le_of_ble_eq_true rfl) ?_
  refine W.eq (g2 := F0 m 4 ls []) rfl ?_
  refine va_gets hx hb (rc_E_cs hE) (rl_SB hx0 hS) hown (hts _ tw_2_58) (fun _ h => h) dJ5_init_d00df_4 ?_
  refine lv_if_eq (tgt := 25) hx hb dJ5_init_d00df_7 (by decide) (fun c9 => absurd c9 (by decide)) (fun _ => ?_)
  refine lv_aload_n hx hb dJ5_init_d00df_10 rfl (lv_at hl 0 rfl) ?_
  refine lv_iload_n hx hb dJ5_init_d00df_11 rfl (lv_at hl 1 rfl) ?_
  refine rl_newa hx hb (atype := .byte) (hts _ tw_2_81) (ty := .byte) rfl hK hV hz hS 3 rfl (fun _ h => nomatch h) 24 (N' := 16) rfl rfl (by decide) (by decide) (by decide) (Nat.le_of_ble_eq_true rfl) (Nat.le_of_ble_eq_true rfl) dJ5_init_d00df_12 (fun H hV hz hS => ?_)
  refine pr_11_0 (j := 0) (o := 1) hx hb hts hown hK hV hz hS (by decide) (by decide +kernel) tw_2_67 dJ5_init_d00df_14 (fun H locs hV hz hS => ?_)
  refine lv_aload_n hx hb dJ5_init_d00df_17 rfl (lv_at hl 0 rfl) ?_
  refine lv_iconst (v := 0) hx hb dJ5_init_d00df_18 (by decide) ?_
  refine pi_11_1 (j := 0) hx hb hts hown hK hV hz hS (by decide +kernel) tw_2_68 rfl rfl dJ5_init_d00df_19 (fun H locs hV hz hS => ?_)
  refine lv_goto (tgt := 38) hx hb dJ5_init_d00df_22 (by decide) ?_
  exact rl_vret (M := g_J5_init_d00df) (N := 2) (mc := 1) (ms := 16) hx hb hr hlocks hV hz hS dJ5_init_d00df_38
def g_J4_init_da8c8 : rl_L := g_J5_init_d00df
set_option maxHeartbeats 8000000 in
set_option maxRecDepth 100000 in
theorem kc_J4_init_da8c8 (l : Launch) {Y : rc_Y} (ω : rc_O) (x : Nat) (hx0 : Y.1 ≤ x) : Met l yJ4_init_da8c8 (Cond.code yJ4_init_da8c8 cJ4_init_da8c8 1 none :: rc_big) ({ frames := 2, cells := 1, slots := 16, locals := 33 } : Room) (rl_P Y ω x 11 [.ref x]) (va_Qv (fun _ : Unit => True) (rl_B Y ω x g_J4_init_da8c8 2) (fun q => x ≤ q)) 1 16 (fun q => x ≤ q) := by
  refine rc_ofWF (cc := cJ4_init_da8c8) (maxL := 1) (ret := none) (by decide +kernel) rfl ?_
  intro p e s m args below meth c s₁ B hml hv
  obtain ⟨rfl, hz, hV, hK, hE, hA⟩ := hv
  have hx := B.exec
  have hb := B.bytes
  have hr := B.returns
  have hts : ∀ w ∈ rc_big, w.before _ s = true := fun w h => atoms_spec (ws := Cond.code yJ4_init_da8c8 cJ4_init_da8c8 1 none :: rc_big) B.pre w (List.mem_cons_of_mem _ h)
  have hown : s.vm.findClass RJ4 = some m.cls := findClass_of_methodNamed B.named
  have hin : meth.name = "<init>" := (name_of_methodNamed B.named B.method).1
  have hlocks := B.notSynchronized
  clear B
  have hS : va_S (fun q => x ≤ q) s.heap s.heap [] := va_S.rf
  have hl := lv_entry ([.ref x]) (n := 1) (Nat.le_of_ble_eq_true rfl)
  rw [lg_entry_eq]
  generalize (lg_sl ([.ref x]) ++ List.replicate (1 - (lg_sl ([.ref x])).length) Slot.unset).toArray = ls at hl ⊢
  have hl : lv_has ls 1 [(0, .ref x)] := hl
  refine lv_aload_n hx hb dJ4_init_da8c8_0 rfl (lv_at hl 0 rfl) ?_
  refine lv_bipush (v := 16) hx hb dJ4_init_da8c8_1 (by decide) ?_
  refine va_callv (va_runI (As := [.int (16 : Int32)]) (rest := []) ⟨hx, hb, hml, hown, hts⟩ (kc_J5_init_d00df l ω x hx0) (cwI 1 hts (rc_gI tw_2_56) rfl rfl rfl (hts _ tw_1_10) (hts _ tw_2_54) (hts _ tw_2_55) rfl (by decide +kernel) ⟨Nat.le_of_ble_eq_true rfl, Nat.le_of_ble_eq_true rfl⟩) (rl_pre hx0 hK hE hA hV hz hS (.ref x :: [.int (16 : Int32)])) rfl rfl hl.1 rfl (lv_room (Nat.le_of_ble_eq_true rfl)) dJ4_init_da8c8_3 ⟨Nat.le_of_ble_eq_true rfl, Nat.le_of_ble_eq_true rfl⟩) hS (fun q _ h => h) (fun q h => h) (fun u t H locs ht _ _ hB _ _ hS => ?_)
  have hV : rc_V Y (rl_o ω x g_J5_init_d00df) H := by rw [← ht]; exact hB.1
  have hz : H.size = x + 2 := by rw [← ht]; exact hB.2
  clear hB
  exact rl_vret (M := g_J4_init_da8c8) (N := 2) (mc := 1) (ms := 16) hx hb hr hlocks hV hz hS dJ4_init_da8c8_6
def g_X8_init : rl_L := rl_r (rl_c (rl_i (rl_r (rl_c (rl_r (rl_c (rl_i (rl_r (rl_c (rl_r (rl_r (rl_r (rl_c (rl_0 9) 1 g_X7_init) 0 0 1) 0 1 2) 0 2 29) 30 g_X1_init) 0 3 30) 0 4 0) 57 g_X2_init) 0 5 57) 302 g_X6_init) 0 6 302) 0 7 (-1)) 306 g_J4_init_da8c8) 0 8 306
set_option maxHeartbeats 8000000 in
set_option maxRecDepth 100000 in
theorem kc_X8_init (l : Launch) {Y : rc_Y} (ω : rc_O) (x : Nat) (hx0 : Y.1 ≤ x) : Met l yX8_init (Cond.code yX8_init cX8_init 1 none :: rc_big) ({ frames := 4, cells := 307, slots := 1807, locals := 74 } : Room) (rl_P Y ω x 9 [.ref x]) (va_Qv (fun _ : Unit => True) (rl_B Y ω x g_X8_init 308) (fun q => x ≤ q)) 307 1807 (fun q => x ≤ q) := by
  refine Met.ofW (cc := cX8_init) (maxL := 1) (ret := none) (by decide +kernel) rfl ?_
  intro p e s m args below meth c s₁ B hml hv
  obtain ⟨rfl, hz, hV, hK, hE, hA⟩ := hv
  have hx := B.exec
  have hb := B.bytes
  have hr := B.returns
  have hts : ∀ w ∈ rc_big, w.before _ s = true := fun w h => atoms_spec (ws := Cond.code yX8_init cX8_init 1 none :: rc_big) B.pre w (List.mem_cons_of_mem _ h)
  have hown : s.vm.findClass RX8 = some m.cls := findClass_of_methodNamed B.named
  have hin : meth.name = "<init>" := (name_of_methodNamed B.named B.method).1
  have hlocks := B.notSynchronized
  clear B
  have hS : va_S (fun q => x ≤ q) s.heap s.heap [] := va_S.rf
  have hl := lv_entry ([.ref x]) (n := 1) (Nat.le_of_ble_eq_true rfl)
  rw [lg_entry_eq]
  generalize (lg_sl ([.ref x]) ++ List.replicate (1 - (lg_sl ([.ref x])).length) Slot.unset).toArray = ls at hl ⊢
  have hl : lv_has ls 1 [(0, .ref x)] := hl
  refine lv_aload_n hx hb dX8_init_0 rfl (lv_at hl 0 rfl) ?_
  refine W.objInit hx hb hown (hts _ tw_1_39) (hts _ tw_1_40) (hts _ tw_1_41) rfl (by rw [hml]; exact hl.1) rfl dX8_init_1 (Nat.le_of_ble_eq_true rfl) (Nat.le_of_ble_eq_true rfl) ?_
  refine W.eq (g2 := F0 m 4 ls []) rfl ?_
  refine lv_aload_n hx hb dX8_init_4 rfl (lv_at hl 0 rfl) ?_
  refine pn_8 hx hb hts hown tw_1_42 tw_1_43 tw_1_2 hK hV hz hS (Nat.le_of_ble_eq_true rfl) (Nat.le_of_ble_eq_true rfl) dX8_init_5 (fun H hV hz hS => ?_)
  refine lv_dup hx hb dX8_init_8 rfl ?_
  refine rl_call (n := 1) (N := 29) (M := g_X7_init) (va_runIN (As := []) (rest := [.ref (x + 1), .ref x]) ⟨hx, hb, hml, hown, hts⟩ (kc_X7_init l (rl_o ω x _) (x + 1) (Nat.le_trans hx0 (Nat.le_add_right x 1))) ⟨va_cnB 0 hts (rc_gI tw_1_46) rfl rfl rfl (rc_E_nw hE _ nw_1_44) (hts _ tw_1_2) (by decide +kernel) ⟨Nat.le_of_ble_eq_true rfl, Nat.le_of_ble_eq_true rfl⟩, rfl, hts _ tw_1_45⟩ (rl_pre hx0 hK hE hA hV hz hS [.ref (x + 1)]) rfl rfl hl.1 rfl (lv_room (Nat.le_of_ble_eq_true rfl)) dX8_init_9 ⟨Nat.le_of_ble_eq_true rfl, Nat.le_of_ble_eq_true rfl⟩) (Nat.le_add_right x 1) hS (fun H locs hV hz hS => ?_)
  refine pr_9_0 (j := 0) (o := 1) hx hb hts hown hK hV hz hS hin (by decide) (by decide +kernel) tw_2_82 dX8_init_12 (fun H locs hV hz hS => ?_)
  refine lv_aload_n hx hb dX8_init_15 rfl (lv_at hl 0 rfl) ?_
  refine lv_aload_n hx hb dX8_init_16 rfl (lv_at hl 0 rfl) ?_
  refine pg_9_0 (j := 0) (o := 1) hx hb hts hown hK hV (by decide) (by decide +kernel) (by decide +kernel) tw_2_82 dX8_init_17 ?_
  refine pg_8_0 (j := 1) (o := 2) hx hb hts hown hK hV (by decide) (by decide +kernel) (by decide +kernel) tw_1_227 dX8_init_20 ?_
  refine pr_9_1 (j := 0) (o := 2) hx hb hts hown hK hV hz hS hin (by decide) (by decide +kernel) tw_2_83 dX8_init_23 (fun H locs hV hz hS => ?_)
  refine lv_aload_n hx hb dX8_init_26 rfl (lv_at hl 0 rfl) ?_
  refine lv_aload_n hx hb dX8_init_27 rfl (lv_at hl 0 rfl) ?_
  refine pg_9_0 (j := 0) (o := 1) hx hb hts hown hK hV (by decide) (by decide +kernel) (by decide +kernel) tw_2_82 dX8_init_28 ?_
  refine pg_8_1 (j := 1) (o := 29) hx hb hts hown hK hV (by decide) (by decide +kernel) (by decide +kernel) tw_1_229 dX8_init_31 ?_
  refine pr_9_2 (j := 0) (o := 29) hx hb hts hown hK hV hz hS hin (by decide) (by decide +kernel) tw_2_84 dX8_init_34 (fun H locs hV hz hS => ?_)
  refine lv_aload_n hx hb dX8_init_37 rfl (lv_at hl 0 rfl) ?_
  refine pn_2 hx hb hts hown tw_1_235 tw_1_49 tw_1_3 hK hV hz hS (Nat.le_of_ble_eq_true rfl) (Nat.le_of_ble_eq_true rfl) dX8_init_38 (fun H hV hz hS => ?_)
  refine lv_dup hx hb dX8_init_41 rfl ?_
  refine rl_call (n := 30) (N := 27) (M := g_X1_init) (va_runI (As := []) (rest := [.ref (x + 30), .ref x]) ⟨hx, hb, hml, hown, hts⟩ (kc_X1_init l (rl_o ω x _) (x + 30) (Nat.le_trans hx0 (Nat.le_add_right x 30))) (cwI 0 hts (rc_gI tw_1_52) rfl rfl rfl (hts _ tw_1_3) (hts _ tw_1_236) (hts _ tw_1_51) rfl (by decide +kernel) ⟨Nat.le_of_ble_eq_true rfl, Nat.le_of_ble_eq_true rfl⟩) (rl_pre hx0 hK hE hA hV hz hS [.ref (x + 30)]) rfl rfl hl.1 rfl (lv_room (Nat.le_of_ble_eq_true rfl)) dX8_init_42 ⟨Nat.le_of_ble_eq_true rfl, Nat.le_of_ble_eq_true rfl⟩) (Nat.le_add_right x 30) hS (fun H locs hV hz hS => ?_)
  refine pr_9_3 (j := 0) (o := 30) hx hb hts hown hK hV hz hS hin (by decide) (by decide +kernel) tw_2_85 dX8_init_45 (fun H locs hV hz hS => ?_)
  refine lv_aload_n hx hb dX8_init_48 rfl (lv_at hl 0 rfl) ?_
  refine lv_iconst (v := 0) hx hb dX8_init_49 (by decide) ?_
  refine pi_9_4 (j := 0) hx hb hts hown hK hV hz hS (by decide +kernel) tw_2_86 rfl rfl dX8_init_50 (fun H locs hV hz hS => ?_)
  refine lv_aload_n hx hb dX8_init_53 rfl (lv_at hl 0 rfl) ?_
  refine pn_3 hx hb hts hown tw_1_237 tw_1_238 tw_1_8 hK hV hz hS (Nat.le_of_ble_eq_true rfl) (Nat.le_of_ble_eq_true rfl) dX8_init_54 (fun H hV hz hS => ?_)
  refine lv_dup hx hb dX8_init_57 rfl ?_
  refine rl_call (n := 57) (N := 245) (M := g_X2_init) (va_runI (As := []) (rest := [.ref (x + 57), .ref x]) ⟨hx, hb, hml, hown, hts⟩ (kc_X2_init l (rl_o ω x _) (x + 57) (Nat.le_trans hx0 (Nat.le_add_right x 57))) (cwI 0 hts (rc_gI tw_2_1) rfl rfl rfl (hts _ tw_1_8) (hts _ tw_1_239) (hts _ tw_2_0) rfl (by decide +kernel) ⟨Nat.le_of_ble_eq_true rfl, Nat.le_of_ble_eq_true rfl⟩) (rl_pre hx0 hK hE hA hV hz hS [.ref (x + 57)]) rfl rfl hl.1 rfl (lv_room (Nat.le_of_ble_eq_true rfl)) dX8_init_58 ⟨Nat.le_of_ble_eq_true rfl, Nat.le_of_ble_eq_true rfl⟩) (Nat.le_add_right x 57) hS (fun H locs hV hz hS => ?_)
  refine pr_9_5 (j := 0) (o := 57) hx hb hts hown hK hV hz hS hin (by decide) (by decide +kernel) tw_2_87 dX8_init_61 (fun H locs hV hz hS => ?_)
  refine lv_aload_n hx hb dX8_init_64 rfl (lv_at hl 0 rfl) ?_
  refine pn_7 hx hb hts hown tw_2_17 tw_2_18 tw_1_9 hK hV hz hS (Nat.le_of_ble_eq_true rfl) (Nat.le_of_ble_eq_true rfl) dX8_init_65 (fun H hV hz hS => ?_)
  refine lv_dup hx hb dX8_init_68 rfl ?_
  refine rl_call (n := 302) (N := 4) (M := g_X6_init) (va_runIN (As := []) (rest := [.ref (x + 302), .ref x]) ⟨hx, hb, hml, hown, hts⟩ (kc_X6_init l (rl_o ω x _) (x + 302) (Nat.le_trans hx0 (Nat.le_add_right x 302))) ⟨va_cnB 0 hts (rc_gI tw_2_21) rfl rfl rfl (rc_E_nw hE _ nw_2_19) (hts _ tw_1_9) (by decide +kernel) ⟨Nat.le_of_ble_eq_true rfl, Nat.le_of_ble_eq_true rfl⟩, rfl, hts _ tw_2_20⟩ (rl_pre hx0 hK hE hA hV hz hS [.ref (x + 302)]) rfl rfl hl.1 rfl (lv_room (Nat.le_of_ble_eq_true rfl)) dX8_init_69 ⟨Nat.le_of_ble_eq_true rfl, Nat.le_of_ble_eq_true rfl⟩) (Nat.le_add_right x 302) hS (fun H locs hV hz hS => ?_)
  refine pr_9_6 (j := 0) (o := 302) hx hb hts hown hK hV hz hS hin (by decide) (by decide +kernel) tw_2_88 dX8_init_72 (fun H locs hV hz hS => ?_)
  refine lv_aload_n hx hb dX8_init_75 rfl (lv_at hl 0 rfl) ?_
  refine lv_iconst (v := (-1)) hx hb dX8_init_76 (by decide) ?_
  refine pi_9_7 (j := 0) hx hb hts hown hK hV hz hS (by decide +kernel) tw_2_89 dX8_init_77 (fun H locs hV hz hS => ?_)
  refine lv_aload_n hx hb dX8_init_80 rfl (lv_at hl 0 rfl) ?_
  refine pn_11 hx hb hts hown tw_2_49 tw_2_50 tw_1_11 hK hV hz hS (Nat.le_of_ble_eq_true rfl) (Nat.le_of_ble_eq_true rfl) dX8_init_81 (fun H hV hz hS => ?_)
  refine lv_dup hx hb dX8_init_84 rfl ?_
  refine rl_call (n := 306) (N := 2) (M := g_J4_init_da8c8) (va_runI (As := []) (rest := [.ref (x + 306), .ref x]) ⟨hx, hb, hml, hown, hts⟩ (kc_J4_init_da8c8 l (rl_o ω x _) (x + 306) (Nat.le_trans hx0 (Nat.le_add_right x 306))) (cwI 0 hts (rc_gI tw_2_53) rfl rfl rfl (hts _ tw_1_11) (hts _ tw_2_51) (hts _ tw_2_52) rfl (by decide +kernel) ⟨Nat.le_of_ble_eq_true rfl, Nat.le_of_ble_eq_true rfl⟩) (rl_pre hx0 hK hE hA hV hz hS [.ref (x + 306)]) rfl rfl hl.1 rfl (lv_room (Nat.le_of_ble_eq_true rfl)) dX8_init_85 ⟨Nat.le_of_ble_eq_true rfl, Nat.le_of_ble_eq_true rfl⟩) (Nat.le_add_right x 306) hS (fun H locs hV hz hS => ?_)
  refine pr_9_8 (j := 0) (o := 306) hx hb hts hown hK hV hz hS hin (by decide) (by decide +kernel) tw_2_90 dX8_init_88 (fun H locs hV hz hS => ?_)
  exact rl_vret (M := g_X8_init) (N := 308) (mc := 307) (ms := 1807) hx hb hr hlocks hV hz hS dX8_init_91
