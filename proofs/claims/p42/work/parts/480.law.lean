set_option maxHeartbeats 8000000 in
set_option maxRecDepth 100000 in
theorem lx_law {p : Program} {l : Launch} {e : Env} {s : State} {m : MethodId} {below : List Frame} {meth : Method} {c : Code} {Q : State → Prop} (hl9 : l.stackTraces = false) {Y : rc_Y} {sh : Nat → Nat} {rf : rc_F} (hT : rc_T Y sh rf) (z : rc_Z) (hx : p.tables.exec = Jvm.exec) (hb : c.code = cL_law) (hml : c.maxLocals = 24) (hown : s.vm.findClass RL = some m.cls) (hts : ∀ w ∈ rc_big, w.before #[Value.ref z.1] s = true) (hK : va_K Y.2.1 vwCl (rc_tys Y.2.2.1) s) (hE : rc_E Y s s.heap) (hN : rc_N s) (hXz : rc_Xz z Y s s.heap) (dL : ClassId) (o a1 : Nat) (ho : sh o = 0) (hA0 : rc_A sh s.heap.size o) (hK2 : va_K Y.2.1 vwCl [(dL, .long)] s) (h1 : sh a1 = 9)
    (ke : ∀ (pc : Nat), decode cL_law pc = .ok (.ireturn, 1) → ∀ (H1 : Heap) (locs1 : List Loc) (ls1 : Array Slot) (ce sl : Nat), ce ≤ 600390 → sl ≤ 7290679 → va_S (rc_A sh s.heap.size) s.heap H1 locs1 → W p l e room_1 s m #[Value.ref z.1] below meth c H1 locs1 ce sl Q (F0 m pc ls1 [.int 1]))
    (H : Heap) (locs : List Loc) (ls : Array Slot) (σ σ' : rc_S) (φ : Nat → Int64) (hm : f_L_law rf z a1 σ φ = some (1, σ')) (hW : rc_W Y sh rf σ H) (hO : va_P Y.2.1 vwCl (rc_ro dL o φ) H) (hS : va_S (rc_A sh s.heap.size) s.heap H locs) (hl : lv_has ls 24 [(2, .ref o), (1, .ref a1), (0, .ref z.1)]) : W p l e room_1 s m #[Value.ref z.1] below meth c H locs 309 1876 Q (F0 m 13 ls []) := by
  have lp_28 : ∀ (r1 : Nat) (hr1 : sh r1 = 9) (C0 S0 : Nat) (hC0 : C0 ≤ 502) (hS0 : S0 ≤ 3034) (K : Int32 → Int32 → Int32 → rc_S → (Nat → Int64) → Option (Int32 × rc_S)) (hKK : ∀ (v3 : Int32) (v4 : Int32) (v5 : Int32) (σ : rc_S) (φ : Nat → Int64) (H : Heap) (locs : List Loc) (ls : Array Slot), K v3 v4 v5 σ φ = some (1, σ') → va_P Y.2.1 vwCl (rc_ro dL o φ) H → rc_W Y sh rf σ H → va_S (rc_A sh s.heap.size) s.heap H locs → lv_has ls 24 [(1, .ref r1), (2, .ref o), (3, .int v3)] → W p l e room_1 s m #[Value.ref z.1] below meth c H locs (C0 + 144942) (S0 + 870338) Q (F0 m 433 ls [])) (n : Nat) (hn : n ≤ 49) (v3 : Int32) (v4 : Int32) (v5 : Int32) (σ : rc_S) (φ : Nat → Int64) (H : Heap) (locs : List Loc) (ls : Array Slot), f_L_law_28 rf z r1 K n v3 v4 v5 σ φ = some (1, σ') → va_P Y.2.1 vwCl (rc_ro dL o φ) H → rc_W Y sh rf σ H → va_S (rc_A sh s.heap.size) s.heap H locs → lv_has ls 24 [(0, .ref z.1), (1, .ref r1), (2, .ref o), (3, .int v3), (4, .int v4), (5, .int v5)] → W p l e room_1 s m #[Value.ref z.1] below meth c H locs (C0 + (49 - n) * 2958) (S0 + (49 - n) * 17762) Q (F0 m 28 ls []) := by
    intro r1 hr1 C0 S0 hC0 hS0 K hKK n
    induction n with
    | zero =>
      intro hn v3 v4 v5 σ φ H locs ls hm
      rw [f_L_law_28] at hm
      cases hm
    | succ n_28 ih =>
      intro hn v3 v4 v5 σ φ H locs ls hm hO hW hS hl
      rw [f_L_law_28] at hm
      refine lv_iload hx hb dL_law_28 (lv_at hl 5 rfl) ?_
      refine lv_bipush (v := 48) hx hb dL_law_30 (by decide) ?_
      refine lv_icmp_ge (tgt := 433) hx hb dL_law_32 (by decide) (fun c_73 => ?_) (fun c_73 => ?_)
      · replace hm := rc_t hm c_73
        refine W.widen (k := C0 + 144942) (n := S0 + 870338) (by omega) (by omega) ?_
        exact hKK v3 v4 v5 σ φ _ _ _ hm hO hW hS (lv_sub hl [1, 2, 3] rfl)
      · replace hm := rc_f hm c_73
        refine lv_aload_n hx hb dL_law_35 rfl (lv_at hl 1 rfl) ?_
        obtain ⟨w_3, σ_3, hc_3, hm0⟩ := rc_bd_inv hm
        clear hm
        refine rc_clO ho hO hS (va_runS (As := [.ref r1]) (rest := []) ⟨hx, hb, hml, hown, hts⟩ (k_L_sum l hl9 hT z r1 hr1 H.size _ _ _ hc_3) (va_cwS 1 hts (rc_gS tw_6_25 tw_6_26 tw_1_0 tw_6_27) rfl rfl rfl (by decide +kernel) ⟨Nat.le_of_ble_eq_true rfl, Nat.le_of_ble_eq_true rfl⟩) (rc_preSL hT hW hK hE hN hXz hS [.ref r1]) rfl rfl hl.1 rfl (lv_room (Nat.le_of_ble_eq_true rfl)) dL_law_36 ⟨show C0 + (49 - (n_28 + 1)) * 2958 + 193 ≤ 600390 from by omega, show S0 + (49 - (n_28 + 1)) * 17762 + 1158 ≤ 7290679 from by omega⟩) (fun H locs hO hW hS => ?_)
        have hm := hm0
        clear hm0 hc_3
        refine lv_lstore (lv' := [(6, .long w_3), (0, .ref z.1), (1, .ref r1), (2, .ref o), (3, .int v3), (4, .int v4), (5, .int v5)]) hx hb dL_law_39 hl (by decide) rfl (fun ls hl => ?_)
        refine lv_aload_n hx hb dL_law_41 rfl (lv_at hl 2 rfl) ?_
        refine lv_bipush (v := 10) hx hb dL_law_42 (by decide) ?_
        obtain ⟨w_4, σ_4, hc_4, hm0⟩ := rc_bd_inv hm
        clear hm
        refine rc_ciO ho hO hS (vx_runSW (As := [.ref r1, .int (10 : Int32)]) (rest := []) ⟨hx, hb, hml, hown, hts⟩ (k_L_account l hl9 hT z r1 (10 : Int32) hr1 H.size _ _ _ hc_4) (vx_cwSW 2 hts (rc_gS tw_3_118 tw_3_119 tw_1_0 tw_3_120) rfl rfl rfl (by decide +kernel) ⟨Nat.le_of_ble_eq_true rfl, Nat.le_of_ble_eq_true rfl⟩) (rc_preSL hT hW hK hE hN hXz hS [.ref r1, .int (10 : Int32)]) rfl rfl hl.1 rfl (lv_room (Nat.le_of_ble_eq_true rfl)) dL_law_44 ⟨show C0 + (49 - (n_28 + 1)) * 2958 + 193 + 1 ≤ 600390 from by omega, show S0 + (49 - (n_28 + 1)) * 17762 + 1158 + 6 ≤ 7290679 from by omega⟩) (fun H locs hO hW hS => ?_)
        have hm := hm0
        clear hm0 hc_4
        refine lv_istore (lv' := [(8, .int w_4), (6, .long w_3), (0, .ref z.1), (1, .ref r1), (2, .ref o), (3, .int v3), (4, .int v4), (5, .int v5)]) hx hb dL_law_47 hl (by decide) rfl (fun ls hl => ?_)
        refine lv_iload hx hb dL_law_49 (lv_at hl 7 rfl) ?_
        refine lv_iconst (v := 4) hx hb dL_law_51 (by decide) ?_
        refine rc_jn_el hm (fun J => ∀ (w_77_5 : Int32) (σ_6 : rc_S) (H : Heap) (locs : List Loc) (ls : Array Slot), J w_77_5 σ_6 = some (1, σ') → va_P Y.2.1 vwCl (rc_ro dL o φ) H → rc_W Y sh rf σ_6 H → va_S (rc_A sh s.heap.size) s.heap H locs → lv_has ls 24 [(8, .int w_4), (6, .long w_3), (0, .ref z.1), (1, .ref r1), (2, .ref o), (3, .int v3), (4, .int v4), (5, .int v5)] → W p l e room_1 s m #[Value.ref z.1] below meth c H locs (C0 + (49 - (n_28 + 1)) * 2958 + 193 + 1) (S0 + (49 - (n_28 + 1)) * 17762 + 1158 + 6) Q (F0 m 77 ls [.int w_77_5])) ?_ (fun J_77 hJ_77 hm => ?_)
        · intro w_77_5 σ_6 H locs ls hm hO hW hS hl
          refine lv_istore (lv' := [(9, .int w_77_5), (8, .int w_4), (6, .long w_3), (0, .ref z.1), (1, .ref r1), (2, .ref o), (3, .int v3), (4, .int v4), (5, .int v5)]) hx hb dL_law_77 hl (by decide) rfl (fun ls hl => ?_)
          refine lv_aload_n hx hb dL_law_79 rfl (lv_at hl 4 rfl) ?_
          refine lv_iconst (v := 0) hx hb dL_law_80 (by decide) ?_
          obtain ⟨w_7, σ_7, hc_7, hm0⟩ := rc_bd_inv hm
          clear hm
          refine rc_ciO ho hO hS (vx_runSW (As := [.ref r1, .int (0 : Int32)]) (rest := []) ⟨hx, hb, hml, hown, hts⟩ (k_L_account l hl9 hT z r1 (0 : Int32) hr1 H.size _ _ _ hc_7) (vx_cwSW 2 hts (rc_gS tw_3_118 tw_3_119 tw_1_0 tw_3_120) rfl rfl rfl (by decide +kernel) ⟨Nat.le_of_ble_eq_true rfl, Nat.le_of_ble_eq_true rfl⟩) (rc_preSL hT hW hK hE hN hXz hS [.ref r1, .int (0 : Int32)]) rfl rfl hl.1 rfl (lv_room (Nat.le_of_ble_eq_true rfl)) dL_law_81 ⟨show C0 + (49 - (n_28 + 1)) * 2958 + 193 + 1 + 1 ≤ 600390 from by omega, show S0 + (49 - (n_28 + 1)) * 17762 + 1158 + 6 + 6 ≤ 7290679 from by omega⟩) (fun H locs hO hW hS => ?_)
          have hm := hm0
          clear hm0 hc_7
          refine lv_istore (lv' := [(10, .int w_7), (9, .int w_77_5), (8, .int w_4), (6, .long w_3), (0, .ref z.1), (1, .ref r1), (2, .ref o), (3, .int v3), (4, .int v4), (5, .int v5)]) hx hb dL_law_84 hl (by decide) rfl (fun ls hl => ?_)
          refine lv_aload_n hx hb dL_law_86 rfl (lv_at hl 4 rfl) ?_
          refine lv_iload hx hb dL_law_87 (lv_at hl 8 rfl) ?_
          refine lv_iconst (v := 2) hx hb dL_law_89 (by decide) ?_
          refine lv_iadd hx hb dL_law_90 ?_
          refine lv_iload hx hb dL_law_91 (lv_at hl 0 rfl) ?_
          refine lv_iload hx hb dL_law_93 (lv_at hl 9 rfl) ?_
          refine lv_bipush (v := 9) hx hb dL_law_95 (by decide) ?_
          refine lv_irem hx hb dL_law_97 (by decide) ?_
          refine lv_bipush (v := 8) hx hb dL_law_98 (by decide) ?_
          refine rc_jn_el hm (fun J => ∀ (w_113_8 : Int32) (σ_9 : rc_S) (H : Heap) (locs : List Loc) (ls : Array Slot), J w_113_8 σ_9 = some (1, σ') → va_P Y.2.1 vwCl (rc_ro dL o φ) H → rc_W Y sh rf σ_9 H → va_S (rc_A sh s.heap.size) s.heap H locs → lv_has ls 24 [(9, .int w_77_5), (8, .int w_4), (6, .long w_3), (0, .ref z.1), (1, .ref r1), (2, .ref o), (3, .int v3), (4, .int v4), (5, .int v5)] → W p l e room_1 s m #[Value.ref z.1] below meth c H locs (C0 + (49 - (n_28 + 1)) * 2958 + 193 + 1 + 1) (S0 + (49 - (n_28 + 1)) * 17762 + 1158 + 6 + 6) Q (F0 m 113 ls [.int w_113_8, .int w_7, .int (v4 + (2 : Int32)), .ref z.1])) ?_ (fun J_113 hJ_113 hm => ?_)
          · intro w_113_8 σ_9 H locs ls hm hO hW hS hl
            refine lv_iadd hx hb dL_law_113 ?_
            obtain ⟨w_10, σ_10, hc_10, hm0⟩ := rc_bd_inv hm
            clear hm
            refine rc_ciO ho hO hS (va_runS (As := [.ref z.1, .int (v4 + (2 : Int32)), .int (w_7 + w_113_8)]) (rest := []) ⟨hx, hb, hml, hown, hts⟩ (k_L_pick l hl9 hT z (v4 + (2 : Int32)) (w_7 + w_113_8) H.size _ _ _ hc_10) (va_cwS 3 hts (rc_gS tw_2_110 tw_2_111 tw_1_0 tw_2_112) rfl rfl rfl (by decide +kernel) ⟨Nat.le_of_ble_eq_true rfl, Nat.le_of_ble_eq_true rfl⟩) (rc_preSL hT hW hK hE hN hXz hS [.ref z.1, .int (v4 + (2 : Int32)), .int (w_7 + w_113_8)]) rfl rfl hl.1 rfl (lv_room (Nat.le_of_ble_eq_true rfl)) dL_law_114 ⟨show C0 + (49 - (n_28 + 1)) * 2958 + 193 + 1 + 1 + 0 ≤ 600390 from by omega, show S0 + (49 - (n_28 + 1)) * 17762 + 1158 + 6 + 6 + 0 ≤ 7290679 from by omega⟩) (fun H locs hO hW hS => ?_)
            have hm := hm0
            clear hm0 hc_10
            refine lv_istore (lv' := [(11, .int w_10), (9, .int w_77_5), (8, .int w_4), (6, .long w_3), (0, .ref z.1), (1, .ref r1), (2, .ref o), (3, .int v3), (4, .int v4), (5, .int v5)]) hx hb dL_law_117 hl (by decide) rfl (fun ls hl => ?_)
            refine lv_iconst (v := 1) hx hb dL_law_119 (by decide) ?_
            refine lv_aload_n hx hb dL_law_120 rfl (lv_at hl 4 rfl) ?_
            refine lv_iload hx hb dL_law_121 (lv_at hl 8 rfl) ?_
            refine lv_iconst (v := 3) hx hb dL_law_123 (by decide) ?_
            refine lv_iadd hx hb dL_law_124 ?_
            refine lv_bipush (v := 9) hx hb dL_law_125 (by decide) ?_
            obtain ⟨w_11, σ_11, hc_11, hm0⟩ := rc_bd_inv hm
            clear hm
            refine rc_ciO ho hO hS (va_runS (As := [.ref z.1, .int (v4 + (3 : Int32)), .int (9 : Int32)]) (rest := [.int (1 : Int32)]) ⟨hx, hb, hml, hown, hts⟩ (k_L_pick l hl9 hT z (v4 + (3 : Int32)) (9 : Int32) H.size _ _ _ hc_11) (va_cwS 3 hts (rc_gS tw_2_110 tw_2_111 tw_1_0 tw_2_112) rfl rfl rfl (by decide +kernel) ⟨Nat.le_of_ble_eq_true rfl, Nat.le_of_ble_eq_true rfl⟩) (rc_preSL hT hW hK hE hN hXz hS [.ref z.1, .int (v4 + (3 : Int32)), .int (9 : Int32)]) rfl rfl hl.1 rfl (lv_room (Nat.le_of_ble_eq_true rfl)) dL_law_127 ⟨show C0 + (49 - (n_28 + 1)) * 2958 + 193 + 1 + 1 + 0 + 0 ≤ 600390 from by omega, show S0 + (49 - (n_28 + 1)) * 17762 + 1158 + 6 + 6 + 0 + 0 ≤ 7290679 from by omega⟩) (fun H locs hO hW hS => ?_)
            have hm := hm0
            clear hm0 hc_11
            refine lv_iadd hx hb dL_law_130 ?_
            refine lv_topi (fun v12_12 ev => ?_)
            replace hm := rc_lt_at hm ev
            clear ev
            refine lv_istore (lv' := [(12, .int v12_12), (11, .int w_10), (9, .int w_77_5), (8, .int w_4), (6, .long w_3), (0, .ref z.1), (1, .ref r1), (2, .ref o), (3, .int v3), (4, .int v4), (5, .int v5)]) hx hb dL_law_131 hl (by decide) rfl (fun ls hl => ?_)
            refine lv_aload_n hx hb dL_law_133 rfl (lv_at hl 6 rfl) ?_
            refine lv_iload hx hb dL_law_134 (lv_at hl 0 rfl) ?_
            obtain ⟨w_13, σ_13, hc_13, hm0⟩ := rc_bd_inv hm
            clear hm
            refine rc_ciO ho hO hS (vx_runSW (As := [.ref r1, .int v12_12]) (rest := []) ⟨hx, hb, hml, hown, hts⟩ (k_L_wouldCatch l hl9 hT z r1 v12_12 hr1 H.size _ _ _ hc_13) (vx_cwSW 2 hts (rc_gS tw_3_68 tw_3_69 tw_1_0 tw_3_70) rfl rfl rfl (by decide +kernel) ⟨Nat.le_of_ble_eq_true rfl, Nat.le_of_ble_eq_true rfl⟩) (rc_preSL hT hW hK hE hN hXz hS [.ref r1, .int v12_12]) rfl rfl hl.1 rfl (lv_room (Nat.le_of_ble_eq_true rfl)) dL_law_136 ⟨show C0 + (49 - (n_28 + 1)) * 2958 + 193 + 1 + 1 + 0 + 0 + 1 ≤ 600390 from by omega, show S0 + (49 - (n_28 + 1)) * 17762 + 1158 + 6 + 6 + 0 + 0 + 6 ≤ 7290679 from by omega⟩) (fun H locs hO hW hS => ?_)
            have hm := hm0
            clear hm0 hc_13
            refine lv_istore (lv' := [(13, .int w_13), (12, .int v12_12), (11, .int w_10), (9, .int w_77_5), (8, .int w_4), (6, .long w_3), (0, .ref z.1), (1, .ref r1), (2, .ref o), (3, .int v3), (4, .int v4), (5, .int v5)]) hx hb dL_law_139 hl (by decide) rfl (fun ls hl => ?_)
            refine lv_aload_n hx hb dL_law_141 rfl (lv_at hl 7 rfl) ?_
            refine lv_iload hx hb dL_law_142 (lv_at hl 1 rfl) ?_
            obtain ⟨w_14, σ_14, hc_14, hm0⟩ := rc_bd_inv hm
            clear hm
            refine rc_ciO ho hO hS (vx_runSW (As := [.ref r1, .int v12_12]) (rest := []) ⟨hx, hb, hml, hown, hts⟩ (k_L_wouldLose l hl9 hT z r1 v12_12 hr1 H.size _ _ _ hc_14) (vx_cwSW 2 hts (rc_gS tw_3_107 tw_3_108 tw_1_0 tw_3_109) rfl rfl rfl (by decide +kernel) ⟨Nat.le_of_ble_eq_true rfl, Nat.le_of_ble_eq_true rfl⟩) (rc_preSL hT hW hK hE hN hXz hS [.ref r1, .int v12_12]) rfl rfl hl.1 rfl (lv_room (Nat.le_of_ble_eq_true rfl)) dL_law_144 ⟨show C0 + (49 - (n_28 + 1)) * 2958 + 193 + 1 + 1 + 0 + 0 + 1 + 1 ≤ 600390 from by omega, show S0 + (49 - (n_28 + 1)) * 17762 + 1158 + 6 + 6 + 0 + 0 + 6 + 6 ≤ 7290679 from by omega⟩) (fun H locs hO hW hS => ?_)
            have hm := hm0
            clear hm0 hc_14
            refine lv_istore (lv' := [(14, .int w_14), (13, .int w_13), (12, .int v12_12), (11, .int w_10), (9, .int w_77_5), (8, .int w_4), (6, .long w_3), (0, .ref z.1), (1, .ref r1), (2, .ref o), (3, .int v3), (4, .int v4), (5, .int v5)]) hx hb dL_law_147 hl (by decide) rfl (fun ls hl => ?_)
            refine lv_aload_n hx hb dL_law_149 rfl (lv_at hl 8 rfl) ?_
            refine lv_bipush (v := 6) hx hb dL_law_150 (by decide) ?_
            obtain ⟨w_15, σ_15, hc_15, hm0⟩ := rc_bd_inv hm
            clear hm
            refine rc_ciO ho hO hS (vx_runSW (As := [.ref r1, .int (6 : Int32)]) (rest := []) ⟨hx, hb, hml, hown, hts⟩ (k_L_account l hl9 hT z r1 (6 : Int32) hr1 H.size _ _ _ hc_15) (vx_cwSW 2 hts (rc_gS tw_3_118 tw_3_119 tw_1_0 tw_3_120) rfl rfl rfl (by decide +kernel) ⟨Nat.le_of_ble_eq_true rfl, Nat.le_of_ble_eq_true rfl⟩) (rc_preSL hT hW hK hE hN hXz hS [.ref r1, .int (6 : Int32)]) rfl rfl hl.1 rfl (lv_room (Nat.le_of_ble_eq_true rfl)) dL_law_152 ⟨show C0 + (49 - (n_28 + 1)) * 2958 + 193 + 1 + 1 + 0 + 0 + 1 + 1 + 1 ≤ 600390 from by omega, show S0 + (49 - (n_28 + 1)) * 17762 + 1158 + 6 + 6 + 0 + 0 + 6 + 6 + 6 ≤ 7290679 from by omega⟩) (fun H locs hO hW hS => ?_)
            have hm := hm0
            clear hm0 hc_15
            refine lv_istore (lv' := [(15, .int w_15), (14, .int w_14), (13, .int w_13), (12, .int v12_12), (11, .int w_10), (9, .int w_77_5), (8, .int w_4), (6, .long w_3), (0, .ref z.1), (1, .ref r1), (2, .ref o), (3, .int v3), (4, .int v4), (5, .int v5)]) hx hb dL_law_155 hl (by decide) rfl (fun ls hl => ?_)
            refine lv_aload_n hx hb dL_law_157 rfl (lv_at hl 9 rfl) ?_
            refine lv_iload hx hb dL_law_158 (lv_at hl 4 rfl) ?_
            obtain ⟨w_16, σ_16, hc_16, hm0⟩ := rc_bd_inv hm
            clear hm
            refine rc_ciO ho hO hS (vx_runSW (As := [.ref r1, .int w_10]) (rest := []) ⟨hx, hb, hml, hown, hts⟩ (k_L_note l hl9 hT z r1 w_10 hr1 H.size _ _ _ hc_16) (vx_cwSW 2 hts (rc_gS tw_2_117 tw_2_118 tw_1_0 tw_2_119) rfl rfl rfl (by decide +kernel) ⟨Nat.le_of_ble_eq_true rfl, Nat.le_of_ble_eq_true rfl⟩) (rc_preSL hT hW hK hE hN hXz hS [.ref r1, .int w_10]) rfl rfl hl.1 rfl (lv_room (Nat.le_of_ble_eq_true rfl)) dL_law_160 ⟨show C0 + (49 - (n_28 + 1)) * 2958 + 193 + 1 + 1 + 0 + 0 + 1 + 1 + 1 + 2 ≤ 600390 from by omega, show S0 + (49 - (n_28 + 1)) * 17762 + 1158 + 6 + 6 + 0 + 0 + 6 + 6 + 6 + 12 ≤ 7290679 from by omega⟩) (fun H locs hO hW hS => ?_)
            have hm := hm0
            clear hm0 hc_16
            refine lv_istore (lv' := [(16, .int w_16), (15, .int w_15), (14, .int w_14), (13, .int w_13), (12, .int v12_12), (11, .int w_10), (9, .int w_77_5), (8, .int w_4), (6, .long w_3), (0, .ref z.1), (1, .ref r1), (2, .ref o), (3, .int v3), (4, .int v4), (5, .int v5)]) hx hb dL_law_163 hl (by decide) rfl (fun ls hl => ?_)
            refine lv_aload_n hx hb dL_law_165 rfl (lv_at hl 10 rfl) ?_
            refine lv_iload hx hb dL_law_166 (lv_at hl 5 rfl) ?_
            obtain ⟨w_17, σ_17, hc_17, hm0⟩ := rc_bd_inv hm
            clear hm
            refine rc_ciO ho hO hS (vx_runSW (As := [.ref r1, .int w_10]) (rest := []) ⟨hx, hb, hml, hown, hts⟩ (k_L_noticing l hl9 hT z r1 w_10 hr1 H.size _ _ _ hc_17) (vx_cwSW 2 hts (rc_gS tw_3_45 tw_3_46 tw_1_0 tw_3_47) rfl rfl rfl (by decide +kernel) ⟨Nat.le_of_ble_eq_true rfl, Nat.le_of_ble_eq_true rfl⟩) (rc_preSL hT hW hK hE hN hXz hS [.ref r1, .int w_10]) rfl rfl hl.1 rfl (lv_room (Nat.le_of_ble_eq_true rfl)) dL_law_168 ⟨show C0 + (49 - (n_28 + 1)) * 2958 + 193 + 1 + 1 + 0 + 0 + 1 + 1 + 1 + 2 + 1 ≤ 600390 from by omega, show S0 + (49 - (n_28 + 1)) * 17762 + 1158 + 6 + 6 + 0 + 0 + 6 + 6 + 6 + 12 + 6 ≤ 7290679 from by omega⟩) (fun H locs hO hW hS => ?_)
            have hm := hm0
            clear hm0 hc_17
            refine lv_istore (lv' := [(17, .int w_17), (16, .int w_16), (15, .int w_15), (14, .int w_14), (13, .int w_13), (12, .int v12_12), (11, .int w_10), (9, .int w_77_5), (8, .int w_4), (6, .long w_3), (0, .ref z.1), (1, .ref r1), (2, .ref o), (3, .int v3), (4, .int v4), (5, .int v5)]) hx hb dL_law_171 hl (by decide) rfl (fun ls hl => ?_)
            refine lv_aload_n hx hb dL_law_173 rfl (lv_at hl 11 rfl) ?_
            refine lv_bipush (v := 9) hx hb dL_law_174 (by decide) ?_
            obtain ⟨w_18, σ_18, hc_18, hm0⟩ := rc_bd_inv hm
            clear hm
            refine rc_ciO ho hO hS (vx_runSW (As := [.ref r1, .int (9 : Int32)]) (rest := []) ⟨hx, hb, hml, hown, hts⟩ (k_L_account l hl9 hT z r1 (9 : Int32) hr1 H.size _ _ _ hc_18) (vx_cwSW 2 hts (rc_gS tw_3_118 tw_3_119 tw_1_0 tw_3_120) rfl rfl rfl (by decide +kernel) ⟨Nat.le_of_ble_eq_true rfl, Nat.le_of_ble_eq_true rfl⟩) (rc_preSL hT hW hK hE hN hXz hS [.ref r1, .int (9 : Int32)]) rfl rfl hl.1 rfl (lv_room (Nat.le_of_ble_eq_true rfl)) dL_law_176 ⟨show C0 + (49 - (n_28 + 1)) * 2958 + 193 + 1 + 1 + 0 + 0 + 1 + 1 + 1 + 2 + 1 + 1 ≤ 600390 from by omega, show S0 + (49 - (n_28 + 1)) * 17762 + 1158 + 6 + 6 + 0 + 0 + 6 + 6 + 6 + 12 + 6 + 6 ≤ 7290679 from by omega⟩) (fun H locs hO hW hS => ?_)
            have hm := hm0
            clear hm0 hc_18
            refine lv_istore (lv' := [(18, .int w_18), (17, .int w_17), (16, .int w_16), (15, .int w_15), (14, .int w_14), (13, .int w_13), (12, .int v12_12), (11, .int w_10), (9, .int w_77_5), (8, .int w_4), (6, .long w_3), (0, .ref z.1), (1, .ref r1), (2, .ref o), (3, .int v3), (4, .int v4), (5, .int v5)]) hx hb dL_law_179 hl (by decide) rfl (fun ls hl => ?_)
            refine lv_aload_n hx hb dL_law_181 rfl (lv_at hl 12 rfl) ?_
            refine lv_iconst (v := 3) hx hb dL_law_182 (by decide) ?_
            obtain ⟨w_19, σ_19, hc_19, hm0⟩ := rc_bd_inv hm
            clear hm
            refine rc_ciO ho hO hS (vx_runSW (As := [.ref r1, .int (3 : Int32)]) (rest := []) ⟨hx, hb, hml, hown, hts⟩ (k_L_account l hl9 hT z r1 (3 : Int32) hr1 H.size _ _ _ hc_19) (vx_cwSW 2 hts (rc_gS tw_3_118 tw_3_119 tw_1_0 tw_3_120) rfl rfl rfl (by decide +kernel) ⟨Nat.le_of_ble_eq_true rfl, Nat.le_of_ble_eq_true rfl⟩) (rc_preSL hT hW hK hE hN hXz hS [.ref r1, .int (3 : Int32)]) rfl rfl hl.1 rfl (lv_room (Nat.le_of_ble_eq_true rfl)) dL_law_183 ⟨show C0 + (49 - (n_28 + 1)) * 2958 + 193 + 1 + 1 + 0 + 0 + 1 + 1 + 1 + 2 + 1 + 1 + 1 ≤ 600390 from by omega, show S0 + (49 - (n_28 + 1)) * 17762 + 1158 + 6 + 6 + 0 + 0 + 6 + 6 + 6 + 12 + 6 + 6 + 6 ≤ 7290679 from by omega⟩) (fun H locs hO hW hS => ?_)
            have hm := hm0
            clear hm0 hc_19
            refine lv_istore (lv' := [(19, .int w_19), (18, .int w_18), (17, .int w_17), (16, .int w_16), (15, .int w_15), (14, .int w_14), (13, .int w_13), (12, .int v12_12), (11, .int w_10), (9, .int w_77_5), (8, .int w_4), (6, .long w_3), (0, .ref z.1), (1, .ref r1), (2, .ref o), (3, .int v3), (4, .int v4), (5, .int v5)]) hx hb dL_law_186 hl (by decide) rfl (fun ls hl => ?_)
            refine lv_aload_n hx hb dL_law_188 rfl (lv_at hl 12 rfl) ?_
            refine lv_iload hx hb dL_law_189 (lv_at hl 16 rfl) ?_
            refine lv_iload hx hb dL_law_191 (lv_at hl 9 rfl) ?_
            refine lv_aload_n hx hb dL_law_193 rfl (lv_at hl 13 rfl) ?_
            refine lv_iload hx hb dL_law_194 (lv_at hl 8 rfl) ?_
            refine lv_iload hx hb dL_law_196 (lv_at hl 7 rfl) ?_
            obtain ⟨w_20, σ_20, hc_20, hm0⟩ := rc_bd_inv hm
            clear hm
            refine rc_ciO ho hO hS (va_runS (As := [.ref z.1, .int v4, .int w_77_5, .ref r1, .int w_10, .int v12_12]) (rest := []) ⟨hx, hb, hml, hown, hts⟩ (k_L_does l hl9 hT z v4 w_77_5 r1 w_10 v12_12 hr1 H.size _ _ _ hc_20) (va_cwS 6 hts (rc_gS tw_3_129 tw_3_130 tw_1_0 tw_3_131) rfl rfl rfl (by decide +kernel) ⟨Nat.le_of_ble_eq_true rfl, Nat.le_of_ble_eq_true rfl⟩) (rc_preSL hT hW hK hE hN hXz hS [.ref z.1, .int v4, .int w_77_5, .ref r1, .int w_10, .int v12_12]) rfl rfl hl.1 rfl (lv_room (Nat.le_of_ble_eq_true rfl)) dL_law_198 ⟨show C0 + (49 - (n_28 + 1)) * 2958 + 193 + 1 + 1 + 0 + 0 + 1 + 1 + 1 + 2 + 1 + 1 + 1 + 18 ≤ 600390 from by omega, show S0 + (49 - (n_28 + 1)) * 17762 + 1158 + 6 + 6 + 0 + 0 + 6 + 6 + 6 + 12 + 6 + 6 + 6 + 122 ≤ 7290679 from by omega⟩) (fun H locs hO hW hS => ?_)
            have hm := hm0
            clear hm0 hc_20
            refine lv_istore (lv' := [(20, .int w_20), (19, .int w_19), (18, .int w_18), (17, .int w_17), (16, .int w_16), (15, .int w_15), (14, .int w_14), (13, .int w_13), (12, .int v12_12), (11, .int w_10), (9, .int w_77_5), (8, .int w_4), (6, .long w_3), (0, .ref z.1), (1, .ref r1), (2, .ref o), (3, .int v3), (4, .int v4), (5, .int v5)]) hx hb dL_law_201 hl (by decide) rfl (fun ls hl => ?_)
            refine lv_iload hx hb dL_law_203 (lv_at hl 10 rfl) ?_
            refine lv_iconst (v := 2) hx hb dL_law_205 (by decide) ?_
            refine rc_jn_el hm (fun J => ∀ (w_221_21 : Int32) (σ_22 : rc_S) (H : Heap) (locs : List Loc) (ls : Array Slot), J w_221_21 σ_22 = some (1, σ') → va_P Y.2.1 vwCl (rc_ro dL o φ) H → rc_W Y sh rf σ_22 H → va_S (rc_A sh s.heap.size) s.heap H locs → lv_has ls 24 [(20, .int w_20), (19, .int w_19), (18, .int w_18), (17, .int w_17), (16, .int w_16), (15, .int w_15), (14, .int w_14), (13, .int w_13), (12, .int v12_12), (9, .int w_77_5), (8, .int w_4), (6, .long w_3), (0, .ref z.1), (1, .ref r1), (2, .ref o), (3, .int v3), (4, .int v4), (5, .int v5)] → W p l e room_1 s m #[Value.ref z.1] below meth c H locs (C0 + (49 - (n_28 + 1)) * 2958 + 193 + 1 + 1 + 0 + 0 + 1 + 1 + 1 + 2 + 1 + 1 + 1 + 18) (S0 + (49 - (n_28 + 1)) * 17762 + 1158 + 6 + 6 + 0 + 0 + 6 + 6 + 6 + 12 + 6 + 6 + 6 + 122) Q (F0 m 221 ls [.int w_221_21])) ?_ (fun J_221 hJ_221 hm => ?_)
            · intro w_221_21 σ_22 H locs ls hm hO hW hS hl
              refine lv_istore (lv' := [(21, .int w_221_21), (20, .int w_20), (19, .int w_19), (18, .int w_18), (17, .int w_17), (16, .int w_16), (15, .int w_15), (14, .int w_14), (13, .int w_13), (12, .int v12_12), (9, .int w_77_5), (8, .int w_4), (6, .long w_3), (0, .ref z.1), (1, .ref r1), (2, .ref o), (3, .int v3), (4, .int v4), (5, .int v5)]) hx hb dL_law_221 hl (by decide) rfl (fun ls hl => ?_)
              refine lv_iload hx hb dL_law_223 (lv_at hl 10 rfl) ?_
              refine lv_bipush (v := 19) hx hb dL_law_225 (by decide) ?_
              refine rc_jn_el hm (fun J => ∀ (w_249_23 : Int32) (σ_24 : rc_S) (H : Heap) (locs : List Loc) (ls : Array Slot), J w_249_23 σ_24 = some (1, σ') → va_P Y.2.1 vwCl (rc_ro dL o φ) H → rc_W Y sh rf σ_24 H → va_S (rc_A sh s.heap.size) s.heap H locs → lv_has ls 24 [(21, .int w_221_21), (20, .int w_20), (19, .int w_19), (18, .int w_18), (17, .int w_17), (16, .int w_16), (15, .int w_15), (14, .int w_14), (13, .int w_13), (12, .int v12_12), (8, .int w_4), (6, .long w_3), (0, .ref z.1), (1, .ref r1), (2, .ref o), (3, .int v3), (4, .int v4), (5, .int v5)] → W p l e room_1 s m #[Value.ref z.1] below meth c H locs (C0 + (49 - (n_28 + 1)) * 2958 + 193 + 1 + 1 + 0 + 0 + 1 + 1 + 1 + 2 + 1 + 1 + 1 + 18) (S0 + (49 - (n_28 + 1)) * 17762 + 1158 + 6 + 6 + 0 + 0 + 6 + 6 + 6 + 12 + 6 + 6 + 6 + 122) Q (F0 m 249 ls [.int w_249_23])) ?_ (fun J_249 hJ_249 hm => ?_)
              · intro w_249_23 σ_24 H locs ls hm hO hW hS hl
                refine lv_istore (lv' := [(22, .int w_249_23), (21, .int w_221_21), (20, .int w_20), (19, .int w_19), (18, .int w_18), (17, .int w_17), (16, .int w_16), (15, .int w_15), (14, .int w_14), (13, .int w_13), (12, .int v12_12), (8, .int w_4), (6, .long w_3), (0, .ref z.1), (1, .ref r1), (2, .ref o), (3, .int v3), (4, .int v4), (5, .int v5)]) hx hb dL_law_249 hl (by decide) rfl (fun ls hl => ?_)
                refine lv_iload hx hb dL_law_251 (lv_at hl 1 rfl) ?_
                refine rc_jn_el hm (fun J => ∀ (w_295_25 : Int32) (σ_26 : rc_S) (H : Heap) (locs : List Loc) (ls : Array Slot), J w_295_25 σ_26 = some (1, σ') → va_P Y.2.1 vwCl (rc_ro dL o φ) H → rc_W Y sh rf σ_26 H → va_S (rc_A sh s.heap.size) s.heap H locs → lv_has ls 24 [(22, .int w_249_23), (20, .int w_20), (19, .int w_19), (18, .int w_18), (17, .int w_17), (16, .int w_16), (8, .int w_4), (6, .long w_3), (0, .ref z.1), (1, .ref r1), (2, .ref o), (3, .int v3), (4, .int v4), (5, .int v5)] → W p l e room_1 s m #[Value.ref z.1] below meth c H locs (C0 + (49 - (n_28 + 1)) * 2958 + 193 + 1 + 1 + 0 + 0 + 1 + 1 + 1 + 2 + 1 + 1 + 1 + 18 + 1) (S0 + (49 - (n_28 + 1)) * 17762 + 1158 + 6 + 6 + 0 + 0 + 6 + 6 + 6 + 12 + 6 + 6 + 6 + 122 + 6) Q (F0 m 295 ls [.int w_295_25])) ?_ (fun J_295 hJ_295 hm => ?_)
                · intro w_295_25 σ_26 H locs ls hm hO hW hS hl
                  refine lv_istore (lv' := [(23, .int w_295_25), (22, .int w_249_23), (20, .int w_20), (19, .int w_19), (18, .int w_18), (17, .int w_17), (16, .int w_16), (8, .int w_4), (6, .long w_3), (0, .ref z.1), (1, .ref r1), (2, .ref o), (3, .int v3), (4, .int v4), (5, .int v5)]) hx hb dL_law_295 hl (by decide) rfl (fun ls hl => ?_)
                  refine lv_iload hx hb dL_law_297 (lv_at hl 0 rfl) ?_
                  refine lv_iload hx hb dL_law_299 (lv_at hl 1 rfl) ?_
                  refine rc_jn_el hm (fun J => ∀ (w_350_27 : Int32) (σ_28 : rc_S) (H : Heap) (locs : List Loc) (ls : Array Slot), J w_350_27 σ_28 = some (1, σ') → va_P Y.2.1 vwCl (rc_ro dL o φ) H → rc_W Y sh rf σ_28 H → va_S (rc_A sh s.heap.size) s.heap H locs → lv_has ls 24 [(20, .int w_20), (8, .int w_4), (6, .long w_3), (0, .ref z.1), (1, .ref r1), (2, .ref o), (3, .int v3), (4, .int v4), (5, .int v5)] → W p l e room_1 s m #[Value.ref z.1] below meth c H locs (C0 + (49 - (n_28 + 1)) * 2958 + 193 + 1 + 1 + 0 + 0 + 1 + 1 + 1 + 2 + 1 + 1 + 1 + 18 + 1 + 1) (S0 + (49 - (n_28 + 1)) * 17762 + 1158 + 6 + 6 + 0 + 0 + 6 + 6 + 6 + 12 + 6 + 6 + 6 + 122 + 6 + 6) Q (F0 m 350 ls [.int w_350_27, .int w_295_25])) ?_ (fun J_350 hJ_350 hm => ?_)
                  · intro w_350_27 σ_28 H locs ls hm hO hW hS hl
                    refine lv_iand hx hb dL_law_350 ?_
                    refine lv_topi (fun v23_29 ev => ?_)
                    replace hm := rc_lt_at hm ev
                    clear ev
                    refine lv_istore (lv' := [(23, .int v23_29), (20, .int w_20), (8, .int w_4), (6, .long w_3), (0, .ref z.1), (1, .ref r1), (2, .ref o), (3, .int v3), (4, .int v4), (5, .int v5)]) hx hb dL_law_351 hl (by decide) rfl (fun ls hl => ?_)
                    obtain ⟨v4_30, ev⟩ : ∃ y : Int32, y = (v4 + 6) := ⟨_, rfl⟩
                    replace hm := rc_lt_at hm ev
                    refine lv_iinc (v := v4_30) (lv' := [(4, .int v4_30), (23, .int v23_29), (20, .int w_20), (8, .int w_4), (6, .long w_3), (0, .ref z.1), (1, .ref r1), (2, .ref o), (3, .int v3), (5, .int v5)]) hx hb dL_law_353 hl (k := 8) rfl (by rw [ev]; rfl) (by decide) rfl (fun ls hl => ?_)
                    clear ev
                    refine lv_iload hx hb dL_law_356 (lv_at hl 1 rfl) ?_
                    refine lv_if_eq (tgt := 376) hx hb dL_law_358 (by decide) (fun c_47 => ?_) (fun c_47 => ?_)
                    · replace hm := rc_t hm c_47
                      refine lv_iconst (v := 0) hx hb dL_law_376 (by decide) ?_
                      have h9 := congrArg Prod.fst (Option.some.inj hm)
                      exact absurd (show (0 : Int32) = 1 from h9) (by decide)
                    · replace hm := rc_f hm c_47
                      refine lv_aload_n hx hb dL_law_361 rfl (lv_at hl 6 rfl) ?_
                      refine lv_aload_n hx hb dL_law_362 rfl (lv_at hl 5 rfl) ?_
                      refine lv_iload hx hb dL_law_363 (lv_at hl 0 rfl) ?_
                      refine lv_bipush (v := 21) hx hb dL_law_365 (by decide) ?_
                      obtain ⟨w_31, σ_31, hc_31, hm0⟩ := rc_bd_inv hm
                      clear hm
                      refine rc_ciO ho hO hS (va_runS (As := [.ref z.1, .int v4_30, .int (21 : Int32)]) (rest := [.ref r1]) ⟨hx, hb, hml, hown, hts⟩ (k_L_pick l hl9 hT z v4_30 (21 : Int32) H.size _ _ _ hc_31) (va_cwS 3 hts (rc_gS tw_2_110 tw_2_111 tw_1_0 tw_2_112) rfl rfl rfl (by decide +kernel) ⟨Nat.le_of_ble_eq_true rfl, Nat.le_of_ble_eq_true rfl⟩) (rc_preSL hT hW hK hE hN hXz hS [.ref z.1, .int v4_30, .int (21 : Int32)]) rfl rfl hl.1 rfl (lv_room (Nat.le_of_ble_eq_true rfl)) dL_law_367 ⟨show C0 + (49 - (n_28 + 1)) * 2958 + 193 + 1 + 1 + 0 + 0 + 1 + 1 + 1 + 2 + 1 + 1 + 1 + 18 + 1 + 1 + 0 ≤ 600390 from by omega, show S0 + (49 - (n_28 + 1)) * 17762 + 1158 + 6 + 6 + 0 + 0 + 6 + 6 + 6 + 12 + 6 + 6 + 6 + 122 + 6 + 6 + 0 ≤ 7290679 from by omega⟩) (fun H locs hO hW hS => ?_)
                      have hm := hm0
                      clear hm0 hc_31
                      obtain ⟨w_32, σ_32, hc_32, hm0⟩ := rc_bd_inv hm
                      clear hm
                      refine rc_ciO ho hO hS (va_runS (As := [.ref r1, .int w_31]) (rest := []) ⟨hx, hb, hml, hown, hts⟩ (k_L_isWhole l hl9 hT z r1 w_31 hr1 H.size _ _ _ hc_32) (va_cwS 2 hts (rc_gS tw_6_141 tw_6_142 tw_1_0 tw_6_143) rfl rfl rfl (by decide +kernel) ⟨Nat.le_of_ble_eq_true rfl, Nat.le_of_ble_eq_true rfl⟩) (rc_preSL hT hW hK hE hN hXz hS [.ref r1, .int w_31]) rfl rfl hl.1 rfl (lv_room (Nat.le_of_ble_eq_true rfl)) dL_law_370 ⟨show C0 + (49 - (n_28 + 1)) * 2958 + 193 + 1 + 1 + 0 + 0 + 1 + 1 + 1 + 2 + 1 + 1 + 1 + 18 + 1 + 1 + 0 + 2540 ≤ 600390 from by omega, show S0 + (49 - (n_28 + 1)) * 17762 + 1158 + 6 + 6 + 0 + 0 + 6 + 6 + 6 + 12 + 6 + 6 + 6 + 122 + 6 + 6 + 0 + 15240 ≤ 7290679 from by omega⟩) (fun H locs hO hW hS => ?_)
                      have hm := hm0
                      clear hm0 hc_32
                      refine lv_if_ne (tgt := 378) hx hb dL_law_373 (by decide) (fun c_46 => ?_) (fun c_46 => ?_)
                      · replace hm := rc_f hm c_46
                        refine lv_iload hx hb dL_law_378 (lv_at hl 2 rfl) ?_
                        refine lv_bipush (v := (-74)) hx hb dL_law_380 (by decide) ?_
                        refine rc_jn_el hm (fun J => ∀ (v3_33 : Int32) (σ_34 : rc_S) (φ_34 : Nat → Int64) (H : Heap) (locs : List Loc) (ls : Array Slot), J v3_33 σ_34 φ_34 = some (1, σ') → va_P Y.2.1 vwCl (rc_ro dL o φ_34) H → rc_W Y sh rf σ_34 H → va_S (rc_A sh s.heap.size) s.heap H locs → lv_has ls 24 [(4, .int v4_30), (0, .ref z.1), (1, .ref r1), (2, .ref o), (3, .int v3_33), (5, .int v5)] → W p l e room_1 s m #[Value.ref z.1] below meth c H locs (C0 + (49 - (n_28 + 1)) * 2958 + 193 + 1 + 1 + 0 + 0 + 1 + 1 + 1 + 2 + 1 + 1 + 1 + 18 + 1 + 1 + 0 + 2540 + 195) (S0 + (49 - (n_28 + 1)) * 17762 + 1158 + 6 + 6 + 0 + 0 + 6 + 6 + 6 + 12 + 6 + 6 + 6 + 122 + 6 + 6 + 0 + 15240 + 1170) Q (F0 m 427 ls [])) ?_ (fun J_427 hJ_427 hm => ?_)
                        · intro v3_33 σ_34 φ_34 H locs ls hm hO hW hS hl
                          obtain ⟨v5_35, ev⟩ : ∃ y : Int32, y = (v5 + 1) := ⟨_, rfl⟩
                          replace hm := rc_lt_at hm ev
                          refine lv_iinc (v := v5_35) (lv' := [(5, .int v5_35), (4, .int v4_30), (0, .ref z.1), (1, .ref r1), (2, .ref o), (3, .int v3_33)]) hx hb dL_law_427 hl (k := 5) rfl (by rw [ev]; rfl) (by decide) rfl (fun ls hl => ?_)
                          clear ev
                          refine lv_goto (tgt := 28) hx hb dL_law_430 (by decide) ?_
                          refine W.widen (k := C0 + (49 - n_28) * 2958) (n := S0 + (49 - n_28) * 17762) (by omega) (by omega) ?_
                          exact ih (by omega) v3_33 v4_30 v5_35 σ_34 φ_34 _ _ _ hm hO hW hS (lv_sub hl [2, 3, 4, 5, 1, 0] rfl)
                        refine lv_icmp_gt (tgt := 417) hx hb dL_law_382 (by decide) (fun c_45 => ?_) (fun c_45 => ?_)
                        · replace hm := rc_t hm c_45
                          obtain ⟨v3_36, ev⟩ : ∃ y : Int32, y = (v3 + 1) := ⟨_, rfl⟩
                          replace hm := rc_lt_at hm ev
                          refine lv_iinc (v := v3_36) (lv' := [(3, .int v3_36), (4, .int v4_30), (23, .int v23_29), (20, .int w_20), (8, .int w_4), (6, .long w_3), (0, .ref z.1), (1, .ref r1), (2, .ref o), (5, .int v5)]) hx hb dL_law_417 hl (k := 8) rfl (by rw [ev]; rfl) (by decide) rfl (fun ls hl => ?_)
                          clear ev
                          refine lv_aload_n hx hb dL_law_420 rfl (lv_at hl 8 rfl) ?_
                          refine lv_iload_n hx hb dL_law_421 rfl (lv_at hl 0 rfl) ?_
                          refine lv_aload_n hx hb dL_law_422 rfl (lv_at hl 7 rfl) ?_
                          obtain ⟨w_37, σ_37, hc_37, hm0⟩ := rc_bd_inv hm
                          clear hm
                          refine rc_clO ho hO hS (va_runS (As := [.ref r1]) (rest := [.int v3_36, .ref o]) ⟨hx, hb, hml, hown, hts⟩ (k_L_sum l hl9 hT z r1 hr1 H.size _ _ _ hc_37) (va_cwS 1 hts (rc_gS tw_6_25 tw_6_26 tw_1_0 tw_6_27) rfl rfl rfl (by decide +kernel) ⟨Nat.le_of_ble_eq_true rfl, Nat.le_of_ble_eq_true rfl⟩) (rc_preSL hT hW hK hE hN hXz hS [.ref r1]) rfl rfl hl.1 rfl (lv_room (Nat.le_of_ble_eq_true rfl)) dL_law_423 ⟨show C0 + (49 - (n_28 + 1)) * 2958 + 193 + 1 + 1 + 0 + 0 + 1 + 1 + 1 + 2 + 1 + 1 + 1 + 18 + 1 + 1 + 0 + 2540 + 193 ≤ 600390 from by omega, show S0 + (49 - (n_28 + 1)) * 17762 + 1158 + 6 + 6 + 0 + 0 + 6 + 6 + 6 + 12 + 6 + 6 + 6 + 122 + 6 + 6 + 0 + 15240 + 1158 ≤ 7290679 from by omega⟩) (fun H locs hO hW hS => ?_)
                          have hm := hm0
                          clear hm0 hc_37
                          have hi_38 := (rc_ix hm).1
                          replace hm := (rc_ix hm).2
                          refine rc_lastN hx hb hK2 hO hW ho hA0 hS hi_38 dL_law_426 (fun H locs hO hW hS => ?_)
                          obtain ⟨φ_38, ephi⟩ : ∃ y : Nat → Int64, y = vp_updL φ v3_36.toNatClampNeg w_37 := ⟨_, rfl⟩
                          rw [← ephi] at hO
                          replace hm := rc_lt_at hm ephi
                          clear ephi
                          refine W.widen (k := C0 + (49 - (n_28 + 1)) * 2958 + 193 + 1 + 1 + 0 + 0 + 1 + 1 + 1 + 2 + 1 + 1 + 1 + 18 + 1 + 1 + 0 + 2540 + 195) (n := S0 + (49 - (n_28 + 1)) * 17762 + 1158 + 6 + 6 + 0 + 0 + 6 + 6 + 6 + 12 + 6 + 6 + 6 + 122 + 6 + 6 + 0 + 15240 + 1170) (by omega) (by omega) ?_
                          exact hJ_427 v3_36 σ_37 φ_38 _ _ _ hm hO hW hS (lv_sub hl [1, 6, 7, 8, 0, 9] rfl)
                        · replace hm := rc_f hm c_45
                          refine lv_aload_n hx hb dL_law_385 rfl (lv_at hl 6 rfl) ?_
                          obtain ⟨w_39, σ_39, hc_39, hm0⟩ := rc_bd_inv hm
                          clear hm
                          refine rc_clO ho hO hS (va_runS (As := [.ref r1]) (rest := []) ⟨hx, hb, hml, hown, hts⟩ (k_L_sum l hl9 hT z r1 hr1 H.size _ _ _ hc_39) (va_cwS 1 hts (rc_gS tw_6_25 tw_6_26 tw_1_0 tw_6_27) rfl rfl rfl (by decide +kernel) ⟨Nat.le_of_ble_eq_true rfl, Nat.le_of_ble_eq_true rfl⟩) (rc_preSL hT hW hK hE hN hXz hS [.ref r1]) rfl rfl hl.1 rfl (lv_room (Nat.le_of_ble_eq_true rfl)) dL_law_386 ⟨show C0 + (49 - (n_28 + 1)) * 2958 + 193 + 1 + 1 + 0 + 0 + 1 + 1 + 1 + 2 + 1 + 1 + 1 + 18 + 1 + 1 + 0 + 2540 + 193 ≤ 600390 from by omega, show S0 + (49 - (n_28 + 1)) * 17762 + 1158 + 6 + 6 + 0 + 0 + 6 + 6 + 6 + 12 + 6 + 6 + 6 + 122 + 6 + 6 + 0 + 15240 + 1158 ≤ 7290679 from by omega⟩) (fun H locs hO hW hS => ?_)
                          have hm := hm0
                          clear hm0 hc_39
                          refine lv_lload hx hb dL_law_389 (lv_at hl 4 rfl) ?_
                          refine W.lcmp hx hb dL_law_391 ?_
                          refine lv_if_ne (tgt := 415) hx hb dL_law_392 (by decide) (fun c_44 => ?_) (fun c_44 => ?_)
                          · replace hm := rc_f hm c_44
                            refine lv_iconst (v := 0) hx hb dL_law_415 (by decide) ?_
                            have h9 := congrArg Prod.fst (Option.some.inj hm)
                            exact absurd (show (0 : Int32) = 1 from h9) (by decide)
                          · replace hm := rc_t hm c_44
                            refine lv_aload_n hx hb dL_law_395 rfl (lv_at hl 6 rfl) ?_
                            refine lv_bipush (v := 10) hx hb dL_law_396 (by decide) ?_
                            obtain ⟨w_40, σ_40, hc_40, hm0⟩ := rc_bd_inv hm
                            clear hm
                            refine rc_ciO ho hO hS (vx_runSW (As := [.ref r1, .int (10 : Int32)]) (rest := []) ⟨hx, hb, hml, hown, hts⟩ (k_L_account l hl9 hT z r1 (10 : Int32) hr1 H.size _ _ _ hc_40) (vx_cwSW 2 hts (rc_gS tw_3_118 tw_3_119 tw_1_0 tw_3_120) rfl rfl rfl (by decide +kernel) ⟨Nat.le_of_ble_eq_true rfl, Nat.le_of_ble_eq_true rfl⟩) (rc_preSL hT hW hK hE hN hXz hS [.ref r1, .int (10 : Int32)]) rfl rfl hl.1 rfl (lv_room (Nat.le_of_ble_eq_true rfl)) dL_law_398 ⟨show C0 + (49 - (n_28 + 1)) * 2958 + 193 + 1 + 1 + 0 + 0 + 1 + 1 + 1 + 2 + 1 + 1 + 1 + 18 + 1 + 1 + 0 + 2540 + 193 + 1 ≤ 600390 from by omega, show S0 + (49 - (n_28 + 1)) * 17762 + 1158 + 6 + 6 + 0 + 0 + 6 + 6 + 6 + 12 + 6 + 6 + 6 + 122 + 6 + 6 + 0 + 15240 + 1158 + 6 ≤ 7290679 from by omega⟩) (fun H locs hO hW hS => ?_)
                            have hm := hm0
                            clear hm0 hc_40
                            refine lv_iload hx hb dL_law_401 (lv_at hl 3 rfl) ?_
                            refine lv_icmp_ne (tgt := 415) hx hb dL_law_403 (by decide) (fun c_43 => ?_) (fun c_43 => ?_)
                            · replace hm := rc_f hm c_43
                              refine lv_iconst (v := 0) hx hb dL_law_415 (by decide) ?_
                              have h9 := congrArg Prod.fst (Option.some.inj hm)
                              exact absurd (show (0 : Int32) = 1 from h9) (by decide)
                            · replace hm := rc_t hm c_43
                              refine lv_aload_n hx hb dL_law_406 rfl (lv_at hl 6 rfl) ?_
                              refine lv_bipush (v := 11) hx hb dL_law_407 (by decide) ?_
                              obtain ⟨w_41, σ_41, hc_41, hm0⟩ := rc_bd_inv hm
                              clear hm
                              refine rc_ciO ho hO hS (vx_runSW (As := [.ref r1, .int (11 : Int32)]) (rest := []) ⟨hx, hb, hml, hown, hts⟩ (k_L_account l hl9 hT z r1 (11 : Int32) hr1 H.size _ _ _ hc_41) (vx_cwSW 2 hts (rc_gS tw_3_118 tw_3_119 tw_1_0 tw_3_120) rfl rfl rfl (by decide +kernel) ⟨Nat.le_of_ble_eq_true rfl, Nat.le_of_ble_eq_true rfl⟩) (rc_preSL hT hW hK hE hN hXz hS [.ref r1, .int (11 : Int32)]) rfl rfl hl.1 rfl (lv_room (Nat.le_of_ble_eq_true rfl)) dL_law_409 ⟨show C0 + (49 - (n_28 + 1)) * 2958 + 193 + 1 + 1 + 0 + 0 + 1 + 1 + 1 + 2 + 1 + 1 + 1 + 18 + 1 + 1 + 0 + 2540 + 193 + 1 + 1 ≤ 600390 from by omega, show S0 + (49 - (n_28 + 1)) * 17762 + 1158 + 6 + 6 + 0 + 0 + 6 + 6 + 6 + 12 + 6 + 6 + 6 + 122 + 6 + 6 + 0 + 15240 + 1158 + 6 + 6 ≤ 7290679 from by omega⟩) (fun H locs hO hW hS => ?_)
                              have hm := hm0
                              clear hm0 hc_41
                              refine lv_if_eq (tgt := 427) hx hb dL_law_412 (by decide) (fun c_42 => ?_) (fun c_42 => ?_)
                              · replace hm := rc_t hm c_42
                                refine W.widen (k := C0 + (49 - (n_28 + 1)) * 2958 + 193 + 1 + 1 + 0 + 0 + 1 + 1 + 1 + 2 + 1 + 1 + 1 + 18 + 1 + 1 + 0 + 2540 + 195) (n := S0 + (49 - (n_28 + 1)) * 17762 + 1158 + 6 + 6 + 0 + 0 + 6 + 6 + 6 + 12 + 6 + 6 + 6 + 122 + 6 + 6 + 0 + 15240 + 1170) (by omega) (by omega) ?_
                                exact hJ_427 v3 σ_41 φ _ _ _ hm hO hW hS (lv_sub hl [0, 5, 6, 7, 8, 9] rfl)
                              · replace hm := rc_f hm c_42
                                refine lv_iconst (v := 0) hx hb dL_law_415 (by decide) ?_
                                have h9 := congrArg Prod.fst (Option.some.inj hm)
                                exact absurd (show (0 : Int32) = 1 from h9) (by decide)
                      · replace hm := rc_t hm c_46
                        refine lv_iconst (v := 0) hx hb dL_law_376 (by decide) ?_
                        have h9 := congrArg Prod.fst (Option.some.inj hm)
                        exact absurd (show (0 : Int32) = 1 from h9) (by decide)
                  refine lv_if_eq (tgt := 345) hx hb dL_law_301 (by decide) (fun c_57 => ?_) (fun c_57 => ?_)
                  · replace hm := rc_t hm c_57
                    refine lv_iconst (v := 1) hx hb dL_law_345 (by decide) ?_
                    refine lv_goto (tgt := 350) hx hb dL_law_346 (by decide) ?_
                    refine W.widen (k := C0 + (49 - (n_28 + 1)) * 2958 + 193 + 1 + 1 + 0 + 0 + 1 + 1 + 1 + 2 + 1 + 1 + 1 + 18 + 1 + 1) (n := S0 + (49 - (n_28 + 1)) * 17762 + 1158 + 6 + 6 + 0 + 0 + 6 + 6 + 6 + 12 + 6 + 6 + 6 + 122 + 6 + 6) (by omega) (by omega) ?_
                    exact hJ_350 (1 : Int32) σ_26 _ _ _ hm hO hW hS (lv_sub hl [2, 7, 8, 9, 10, 11, 12, 13, 14] rfl)
                  · replace hm := rc_f hm c_57
                    refine lv_iload hx hb dL_law_304 (lv_at hl 2 rfl) ?_
                    refine lv_iload hx hb dL_law_306 (lv_at hl 5 rfl) ?_
                    refine rc_jn_el hm (fun J => ∀ (w_320_48 : Int32) (σ_49 : rc_S) (H : Heap) (locs : List Loc) (ls : Array Slot), J w_320_48 σ_49 = some (1, σ') → va_P Y.2.1 vwCl (rc_ro dL o φ) H → rc_W Y sh rf σ_49 H → va_S (rc_A sh s.heap.size) s.heap H locs → lv_has ls 24 [(20, .int w_20), (18, .int w_18), (17, .int w_17), (8, .int w_4), (6, .long w_3), (0, .ref z.1), (1, .ref r1), (2, .ref o), (3, .int v3), (4, .int v4), (5, .int v5)] → W p l e room_1 s m #[Value.ref z.1] below meth c H locs (C0 + (49 - (n_28 + 1)) * 2958 + 193 + 1 + 1 + 0 + 0 + 1 + 1 + 1 + 2 + 1 + 1 + 1 + 18 + 1) (S0 + (49 - (n_28 + 1)) * 17762 + 1158 + 6 + 6 + 0 + 0 + 6 + 6 + 6 + 12 + 6 + 6 + 6 + 122 + 6) Q (F0 m 320 ls [.int w_320_48, .int w_20, .int w_295_25])) ?_ (fun J_320 hJ_320 hm => ?_)
                    · intro w_320_48 σ_49 H locs ls hm hO hW hS hl
                      refine lv_icmp_ne (tgt := 349) hx hb dL_law_320 (by decide) (fun c_55 => ?_) (fun c_55 => ?_)
                      · replace hm := rc_f hm c_55
                        refine lv_iconst (v := 0) hx hb dL_law_349 (by decide) ?_
                        refine W.widen (k := C0 + (49 - (n_28 + 1)) * 2958 + 193 + 1 + 1 + 0 + 0 + 1 + 1 + 1 + 2 + 1 + 1 + 1 + 18 + 1 + 1) (n := S0 + (49 - (n_28 + 1)) * 17762 + 1158 + 6 + 6 + 0 + 0 + 6 + 6 + 6 + 12 + 6 + 6 + 6 + 122 + 6 + 6) (by omega) (by omega) ?_
                        exact hJ_350 (0 : Int32) σ_49 _ _ _ hm hO hW hS (lv_sub hl [0, 3, 4, 5, 6, 7, 8, 9, 10] rfl)
                      · replace hm := rc_t hm c_55
                        refine lv_aload_n hx hb dL_law_323 rfl (lv_at hl 6 rfl) ?_
                        refine lv_bipush (v := 9) hx hb dL_law_324 (by decide) ?_
                        obtain ⟨w_50, σ_50, hc_50, hm0⟩ := rc_bd_inv hm
                        clear hm
                        refine rc_ciO ho hO hS (vx_runSW (As := [.ref r1, .int (9 : Int32)]) (rest := [.int w_295_25]) ⟨hx, hb, hml, hown, hts⟩ (k_L_account l hl9 hT z r1 (9 : Int32) hr1 H.size _ _ _ hc_50) (vx_cwSW 2 hts (rc_gS tw_3_118 tw_3_119 tw_1_0 tw_3_120) rfl rfl rfl (by decide +kernel) ⟨Nat.le_of_ble_eq_true rfl, Nat.le_of_ble_eq_true rfl⟩) (rc_preSL hT hW hK hE hN hXz hS [.ref r1, .int (9 : Int32)]) rfl rfl hl.1 rfl (lv_room (Nat.le_of_ble_eq_true rfl)) dL_law_326 ⟨show C0 + (49 - (n_28 + 1)) * 2958 + 193 + 1 + 1 + 0 + 0 + 1 + 1 + 1 + 2 + 1 + 1 + 1 + 18 + 1 + 1 ≤ 600390 from by omega, show S0 + (49 - (n_28 + 1)) * 17762 + 1158 + 6 + 6 + 0 + 0 + 6 + 6 + 6 + 12 + 6 + 6 + 6 + 122 + 6 + 6 ≤ 7290679 from by omega⟩) (fun H locs hO hW hS => ?_)
                        have hm := hm0
                        clear hm0 hc_50
                        refine lv_iload hx hb dL_law_329 (lv_at hl 1 rfl) ?_
                        refine lv_iload hx hb dL_law_331 (lv_at hl 2 rfl) ?_
                        refine rc_jn_el hm (fun J => ∀ (w_341_51 : Int32) (σ_52 : rc_S) (H : Heap) (locs : List Loc) (ls : Array Slot), J w_341_51 σ_52 = some (1, σ') → va_P Y.2.1 vwCl (rc_ro dL o φ) H → rc_W Y sh rf σ_52 H → va_S (rc_A sh s.heap.size) s.heap H locs → lv_has ls 24 [(20, .int w_20), (8, .int w_4), (6, .long w_3), (0, .ref z.1), (1, .ref r1), (2, .ref o), (3, .int v3), (4, .int v4), (5, .int v5)] → W p l e room_1 s m #[Value.ref z.1] below meth c H locs (C0 + (49 - (n_28 + 1)) * 2958 + 193 + 1 + 1 + 0 + 0 + 1 + 1 + 1 + 2 + 1 + 1 + 1 + 18 + 1 + 1) (S0 + (49 - (n_28 + 1)) * 17762 + 1158 + 6 + 6 + 0 + 0 + 6 + 6 + 6 + 12 + 6 + 6 + 6 + 122 + 6 + 6) Q (F0 m 341 ls [.int w_341_51, .int w_18, .int w_50, .int w_295_25])) ?_ (fun J_341 hJ_341 hm => ?_)
                        · intro w_341_51 σ_52 H locs ls hm hO hW hS hl
                          refine lv_iadd hx hb dL_law_341 ?_
                          refine lv_icmp_ne (tgt := 349) hx hb dL_law_342 (by decide) (fun c_53 => ?_) (fun c_53 => ?_)
                          · replace hm := rc_f hm c_53
                            refine lv_iconst (v := 0) hx hb dL_law_349 (by decide) ?_
                            refine W.widen (k := C0 + (49 - (n_28 + 1)) * 2958 + 193 + 1 + 1 + 0 + 0 + 1 + 1 + 1 + 2 + 1 + 1 + 1 + 18 + 1 + 1) (n := S0 + (49 - (n_28 + 1)) * 17762 + 1158 + 6 + 6 + 0 + 0 + 6 + 6 + 6 + 12 + 6 + 6 + 6 + 122 + 6 + 6) (by omega) (by omega) ?_
                            exact hJ_350 (0 : Int32) σ_52 _ _ _ hm hO hW hS (lv_sub hl [0, 1, 2, 3, 4, 5, 6, 7, 8] rfl)
                          · replace hm := rc_t hm c_53
                            refine lv_iconst (v := 1) hx hb dL_law_345 (by decide) ?_
                            refine lv_goto (tgt := 350) hx hb dL_law_346 (by decide) ?_
                            refine W.widen (k := C0 + (49 - (n_28 + 1)) * 2958 + 193 + 1 + 1 + 0 + 0 + 1 + 1 + 1 + 2 + 1 + 1 + 1 + 18 + 1 + 1) (n := S0 + (49 - (n_28 + 1)) * 17762 + 1158 + 6 + 6 + 0 + 0 + 6 + 6 + 6 + 12 + 6 + 6 + 6 + 122 + 6 + 6) (by omega) (by omega) ?_
                            exact hJ_350 (1 : Int32) σ_52 _ _ _ hm hO hW hS (lv_sub hl [0, 1, 2, 3, 4, 5, 6, 7, 8] rfl)
                        refine lv_if_ne (tgt := 340) hx hb dL_law_333 (by decide) (fun c_54 => ?_) (fun c_54 => ?_)
                        · replace hm := rc_f hm c_54
                          refine lv_iconst (v := 1) hx hb dL_law_340 (by decide) ?_
                          refine W.widen (k := C0 + (49 - (n_28 + 1)) * 2958 + 193 + 1 + 1 + 0 + 0 + 1 + 1 + 1 + 2 + 1 + 1 + 1 + 18 + 1 + 1) (n := S0 + (49 - (n_28 + 1)) * 17762 + 1158 + 6 + 6 + 0 + 0 + 6 + 6 + 6 + 12 + 6 + 6 + 6 + 122 + 6 + 6) (by omega) (by omega) ?_
                          exact hJ_341 (1 : Int32) σ_50 _ _ _ hm hO hW hS (lv_sub hl [0, 3, 4, 5, 6, 7, 8, 9, 10] rfl)
                        · replace hm := rc_t hm c_54
                          refine lv_iconst (v := 0) hx hb dL_law_336 (by decide) ?_
                          refine lv_goto (tgt := 341) hx hb dL_law_337 (by decide) ?_
                          refine W.widen (k := C0 + (49 - (n_28 + 1)) * 2958 + 193 + 1 + 1 + 0 + 0 + 1 + 1 + 1 + 2 + 1 + 1 + 1 + 18 + 1 + 1) (n := S0 + (49 - (n_28 + 1)) * 17762 + 1158 + 6 + 6 + 0 + 0 + 6 + 6 + 6 + 12 + 6 + 6 + 6 + 122 + 6 + 6) (by omega) (by omega) ?_
                          exact hJ_341 (0 : Int32) σ_50 _ _ _ hm hO hW hS (lv_sub hl [0, 3, 4, 5, 6, 7, 8, 9, 10] rfl)
                    refine lv_if_ne (tgt := 319) hx hb dL_law_308 (by decide) (fun c_56 => ?_) (fun c_56 => ?_)
                    · replace hm := rc_f hm c_56
                      refine lv_iconst (v := 0) hx hb dL_law_319 (by decide) ?_
                      refine W.widen (k := C0 + (49 - (n_28 + 1)) * 2958 + 193 + 1 + 1 + 0 + 0 + 1 + 1 + 1 + 2 + 1 + 1 + 1 + 18 + 1) (n := S0 + (49 - (n_28 + 1)) * 17762 + 1158 + 6 + 6 + 0 + 0 + 6 + 6 + 6 + 12 + 6 + 6 + 6 + 122 + 6) (by omega) (by omega) ?_
                      exact hJ_320 (0 : Int32) σ_26 _ _ _ hm hO hW hS (lv_sub hl [2, 4, 5, 7, 8, 9, 10, 11, 12, 13, 14] rfl)
                    · replace hm := rc_t hm c_56
                      refine lv_iload hx hb dL_law_311 (lv_at hl 6 rfl) ?_
                      refine lv_iload hx hb dL_law_313 (lv_at hl 3 rfl) ?_
                      refine lv_imul hx hb dL_law_315 ?_
                      refine lv_goto (tgt := 320) hx hb dL_law_316 (by decide) ?_
                      refine W.widen (k := C0 + (49 - (n_28 + 1)) * 2958 + 193 + 1 + 1 + 0 + 0 + 1 + 1 + 1 + 2 + 1 + 1 + 1 + 18 + 1) (n := S0 + (49 - (n_28 + 1)) * 17762 + 1158 + 6 + 6 + 0 + 0 + 6 + 6 + 6 + 12 + 6 + 6 + 6 + 122 + 6) (by omega) (by omega) ?_
                      exact hJ_320 (w_16 * w_19) σ_26 _ _ _ hm hO hW hS (lv_sub hl [2, 4, 5, 7, 8, 9, 10, 11, 12, 13, 14] rfl)
                refine lv_if_eq (tgt := 290) hx hb dL_law_253 (by decide) (fun c_62 => ?_) (fun c_62 => ?_)
                · replace hm := rc_t hm c_62
                  refine lv_iconst (v := 1) hx hb dL_law_290 (by decide) ?_
                  refine lv_goto (tgt := 295) hx hb dL_law_291 (by decide) ?_
                  refine W.widen (k := C0 + (49 - (n_28 + 1)) * 2958 + 193 + 1 + 1 + 0 + 0 + 1 + 1 + 1 + 2 + 1 + 1 + 1 + 18 + 1) (n := S0 + (49 - (n_28 + 1)) * 17762 + 1158 + 6 + 6 + 0 + 0 + 6 + 6 + 6 + 12 + 6 + 6 + 6 + 122 + 6) (by omega) (by omega) ?_
                  exact hJ_295 (1 : Int32) σ_24 _ _ _ hm hO hW hS (lv_sub hl [0, 2, 3, 4, 5, 6, 11, 12, 13, 14, 15, 16, 17, 18] rfl)
                · replace hm := rc_f hm c_62
                  refine lv_iload hx hb dL_law_256 (lv_at hl 2 rfl) ?_
                  refine lv_iload hx hb dL_law_258 (lv_at hl 9 rfl) ?_
                  refine lv_icmp_ne (tgt := 294) hx hb dL_law_260 (by decide) (fun c_61 => ?_) (fun c_61 => ?_)
                  · replace hm := rc_f hm c_61
                    refine lv_iconst (v := 0) hx hb dL_law_294 (by decide) ?_
                    refine W.widen (k := C0 + (49 - (n_28 + 1)) * 2958 + 193 + 1 + 1 + 0 + 0 + 1 + 1 + 1 + 2 + 1 + 1 + 1 + 18 + 1) (n := S0 + (49 - (n_28 + 1)) * 17762 + 1158 + 6 + 6 + 0 + 0 + 6 + 6 + 6 + 12 + 6 + 6 + 6 + 122 + 6) (by omega) (by omega) ?_
                    exact hJ_295 (0 : Int32) σ_24 _ _ _ hm hO hW hS (lv_sub hl [0, 2, 3, 4, 5, 6, 11, 12, 13, 14, 15, 16, 17, 18] rfl)
                  · replace hm := rc_t hm c_61
                    refine lv_aload_n hx hb dL_law_263 rfl (lv_at hl 14 rfl) ?_
                    refine lv_bipush (v := 6) hx hb dL_law_264 (by decide) ?_
                    obtain ⟨w_58, σ_58, hc_58, hm0⟩ := rc_bd_inv hm
                    clear hm
                    refine rc_ciO ho hO hS (vx_runSW (As := [.ref r1, .int (6 : Int32)]) (rest := []) ⟨hx, hb, hml, hown, hts⟩ (k_L_account l hl9 hT z r1 (6 : Int32) hr1 H.size _ _ _ hc_58) (vx_cwSW 2 hts (rc_gS tw_3_118 tw_3_119 tw_1_0 tw_3_120) rfl rfl rfl (by decide +kernel) ⟨Nat.le_of_ble_eq_true rfl, Nat.le_of_ble_eq_true rfl⟩) (rc_preSL hT hW hK hE hN hXz hS [.ref r1, .int (6 : Int32)]) rfl rfl hl.1 rfl (lv_room (Nat.le_of_ble_eq_true rfl)) dL_law_266 ⟨show C0 + (49 - (n_28 + 1)) * 2958 + 193 + 1 + 1 + 0 + 0 + 1 + 1 + 1 + 2 + 1 + 1 + 1 + 18 + 1 ≤ 600390 from by omega, show S0 + (49 - (n_28 + 1)) * 17762 + 1158 + 6 + 6 + 0 + 0 + 6 + 6 + 6 + 12 + 6 + 6 + 6 + 122 + 6 ≤ 7290679 from by omega⟩) (fun H locs hO hW hS => ?_)
                    have hm := hm0
                    clear hm0 hc_58
                    refine lv_iload hx hb dL_law_269 (lv_at hl 7 rfl) ?_
                    refine lv_iload hx hb dL_law_271 (lv_at hl 8 rfl) ?_
                    refine lv_iadd hx hb dL_law_273 ?_
                    refine lv_icmp_ne (tgt := 294) hx hb dL_law_274 (by decide) (fun c_60 => ?_) (fun c_60 => ?_)
                    · replace hm := rc_f hm c_60
                      refine lv_iconst (v := 0) hx hb dL_law_294 (by decide) ?_
                      refine W.widen (k := C0 + (49 - (n_28 + 1)) * 2958 + 193 + 1 + 1 + 0 + 0 + 1 + 1 + 1 + 2 + 1 + 1 + 1 + 18 + 1) (n := S0 + (49 - (n_28 + 1)) * 17762 + 1158 + 6 + 6 + 0 + 0 + 6 + 6 + 6 + 12 + 6 + 6 + 6 + 122 + 6) (by omega) (by omega) ?_
                      exact hJ_295 (0 : Int32) σ_58 _ _ _ hm hO hW hS (lv_sub hl [0, 2, 3, 4, 5, 6, 11, 12, 13, 14, 15, 16, 17, 18] rfl)
                    · replace hm := rc_t hm c_60
                      refine lv_iload hx hb dL_law_277 (lv_at hl 9 rfl) ?_
                      refine lv_iload hx hb dL_law_279 (lv_at hl 8 rfl) ?_
                      refine lv_iadd hx hb dL_law_281 ?_
                      refine lv_bipush (v := 10) hx hb dL_law_282 (by decide) ?_
                      refine lv_iload hx hb dL_law_284 (lv_at hl 10 rfl) ?_
                      refine lv_imul hx hb dL_law_286 ?_
                      refine lv_icmp_ne (tgt := 294) hx hb dL_law_287 (by decide) (fun c_59 => ?_) (fun c_59 => ?_)
                      · replace hm := rc_f hm c_59
                        refine lv_iconst (v := 0) hx hb dL_law_294 (by decide) ?_
                        refine W.widen (k := C0 + (49 - (n_28 + 1)) * 2958 + 193 + 1 + 1 + 0 + 0 + 1 + 1 + 1 + 2 + 1 + 1 + 1 + 18 + 1) (n := S0 + (49 - (n_28 + 1)) * 17762 + 1158 + 6 + 6 + 0 + 0 + 6 + 6 + 6 + 12 + 6 + 6 + 6 + 122 + 6) (by omega) (by omega) ?_
                        exact hJ_295 (0 : Int32) σ_58 _ _ _ hm hO hW hS (lv_sub hl [0, 2, 3, 4, 5, 6, 11, 12, 13, 14, 15, 16, 17, 18] rfl)
                      · replace hm := rc_t hm c_59
                        refine lv_iconst (v := 1) hx hb dL_law_290 (by decide) ?_
                        refine lv_goto (tgt := 295) hx hb dL_law_291 (by decide) ?_
                        refine W.widen (k := C0 + (49 - (n_28 + 1)) * 2958 + 193 + 1 + 1 + 0 + 0 + 1 + 1 + 1 + 2 + 1 + 1 + 1 + 18 + 1) (n := S0 + (49 - (n_28 + 1)) * 17762 + 1158 + 6 + 6 + 0 + 0 + 6 + 6 + 6 + 12 + 6 + 6 + 6 + 122 + 6) (by omega) (by omega) ?_
                        exact hJ_295 (1 : Int32) σ_58 _ _ _ hm hO hW hS (lv_sub hl [0, 2, 3, 4, 5, 6, 11, 12, 13, 14, 15, 16, 17, 18] rfl)
              refine lv_icmp_le (tgt := 248) hx hb dL_law_227 (by decide) (fun c_65 => ?_) (fun c_65 => ?_)
              · replace hm := rc_t hm c_65
                refine lv_iconst (v := 0) hx hb dL_law_248 (by decide) ?_
                refine W.widen (k := C0 + (49 - (n_28 + 1)) * 2958 + 193 + 1 + 1 + 0 + 0 + 1 + 1 + 1 + 2 + 1 + 1 + 1 + 18) (n := S0 + (49 - (n_28 + 1)) * 17762 + 1158 + 6 + 6 + 0 + 0 + 6 + 6 + 6 + 12 + 6 + 6 + 6 + 122) (by omega) (by omega) ?_
                exact hJ_249 (0 : Int32) σ_22 _ _ _ hm hO hW hS (lv_sub hl [0, 1, 2, 3, 4, 5, 6, 7, 8, 9, 11, 12, 13, 14, 15, 16, 17, 18] rfl)
              · replace hm := rc_f hm c_65
                refine lv_iload hx hb dL_law_230 (lv_at hl 10 rfl) ?_
                refine lv_bipush (v := 25) hx hb dL_law_232 (by decide) ?_
                refine lv_icmp_ge (tgt := 248) hx hb dL_law_234 (by decide) (fun c_64 => ?_) (fun c_64 => ?_)
                · replace hm := rc_t hm c_64
                  refine lv_iconst (v := 0) hx hb dL_law_248 (by decide) ?_
                  refine W.widen (k := C0 + (49 - (n_28 + 1)) * 2958 + 193 + 1 + 1 + 0 + 0 + 1 + 1 + 1 + 2 + 1 + 1 + 1 + 18) (n := S0 + (49 - (n_28 + 1)) * 17762 + 1158 + 6 + 6 + 0 + 0 + 6 + 6 + 6 + 12 + 6 + 6 + 6 + 122) (by omega) (by omega) ?_
                  exact hJ_249 (0 : Int32) σ_22 _ _ _ hm hO hW hS (lv_sub hl [0, 1, 2, 3, 4, 5, 6, 7, 8, 9, 11, 12, 13, 14, 15, 16, 17, 18] rfl)
                · replace hm := rc_f hm c_64
                  refine lv_iload hx hb dL_law_237 (lv_at hl 1 rfl) ?_
                  refine lv_bipush (v := (-70)) hx hb dL_law_239 (by decide) ?_
                  refine lv_icmp_le (tgt := 248) hx hb dL_law_241 (by decide) (fun c_63 => ?_) (fun c_63 => ?_)
                  · replace hm := rc_t hm c_63
                    refine lv_iconst (v := 0) hx hb dL_law_248 (by decide) ?_
                    refine W.widen (k := C0 + (49 - (n_28 + 1)) * 2958 + 193 + 1 + 1 + 0 + 0 + 1 + 1 + 1 + 2 + 1 + 1 + 1 + 18) (n := S0 + (49 - (n_28 + 1)) * 17762 + 1158 + 6 + 6 + 0 + 0 + 6 + 6 + 6 + 12 + 6 + 6 + 6 + 122) (by omega) (by omega) ?_
                    exact hJ_249 (0 : Int32) σ_22 _ _ _ hm hO hW hS (lv_sub hl [0, 1, 2, 3, 4, 5, 6, 7, 8, 9, 11, 12, 13, 14, 15, 16, 17, 18] rfl)
                  · replace hm := rc_f hm c_63
                    refine lv_iconst (v := 1) hx hb dL_law_244 (by decide) ?_
                    refine lv_goto (tgt := 249) hx hb dL_law_245 (by decide) ?_
                    refine W.widen (k := C0 + (49 - (n_28 + 1)) * 2958 + 193 + 1 + 1 + 0 + 0 + 1 + 1 + 1 + 2 + 1 + 1 + 1 + 18) (n := S0 + (49 - (n_28 + 1)) * 17762 + 1158 + 6 + 6 + 0 + 0 + 6 + 6 + 6 + 12 + 6 + 6 + 6 + 122) (by omega) (by omega) ?_
                    exact hJ_249 (1 : Int32) σ_22 _ _ _ hm hO hW hS (lv_sub hl [0, 1, 2, 3, 4, 5, 6, 7, 8, 9, 11, 12, 13, 14, 15, 16, 17, 18] rfl)
            refine lv_icmp_le (tgt := 220) hx hb dL_law_206 (by decide) (fun c_67 => ?_) (fun c_67 => ?_)
            · replace hm := rc_t hm c_67
              refine lv_iconst (v := 0) hx hb dL_law_220 (by decide) ?_
              refine W.widen (k := C0 + (49 - (n_28 + 1)) * 2958 + 193 + 1 + 1 + 0 + 0 + 1 + 1 + 1 + 2 + 1 + 1 + 1 + 18) (n := S0 + (49 - (n_28 + 1)) * 17762 + 1158 + 6 + 6 + 0 + 0 + 6 + 6 + 6 + 12 + 6 + 6 + 6 + 122) (by omega) (by omega) ?_
              exact hJ_221 (0 : Int32) σ_20 _ _ _ hm hO hW hS (lv_sub hl [0, 1, 2, 3, 4, 5, 6, 7, 8, 10, 11, 12, 13, 14, 15, 16, 17, 18] rfl)
            · replace hm := rc_f hm c_67
              refine lv_iload hx hb dL_law_209 (lv_at hl 10 rfl) ?_
              refine lv_bipush (v := 7) hx hb dL_law_211 (by decide) ?_
              refine lv_icmp_ge (tgt := 220) hx hb dL_law_213 (by decide) (fun c_66 => ?_) (fun c_66 => ?_)
              · replace hm := rc_t hm c_66
                refine lv_iconst (v := 0) hx hb dL_law_220 (by decide) ?_
                refine W.widen (k := C0 + (49 - (n_28 + 1)) * 2958 + 193 + 1 + 1 + 0 + 0 + 1 + 1 + 1 + 2 + 1 + 1 + 1 + 18) (n := S0 + (49 - (n_28 + 1)) * 17762 + 1158 + 6 + 6 + 0 + 0 + 6 + 6 + 6 + 12 + 6 + 6 + 6 + 122) (by omega) (by omega) ?_
                exact hJ_221 (0 : Int32) σ_20 _ _ _ hm hO hW hS (lv_sub hl [0, 1, 2, 3, 4, 5, 6, 7, 8, 10, 11, 12, 13, 14, 15, 16, 17, 18] rfl)
              · replace hm := rc_f hm c_66
                refine lv_iconst (v := 1) hx hb dL_law_216 (by decide) ?_
                refine lv_goto (tgt := 221) hx hb dL_law_217 (by decide) ?_
                refine W.widen (k := C0 + (49 - (n_28 + 1)) * 2958 + 193 + 1 + 1 + 0 + 0 + 1 + 1 + 1 + 2 + 1 + 1 + 1 + 18) (n := S0 + (49 - (n_28 + 1)) * 17762 + 1158 + 6 + 6 + 0 + 0 + 6 + 6 + 6 + 12 + 6 + 6 + 6 + 122) (by omega) (by omega) ?_
                exact hJ_221 (1 : Int32) σ_20 _ _ _ hm hO hW hS (lv_sub hl [0, 1, 2, 3, 4, 5, 6, 7, 8, 10, 11, 12, 13, 14, 15, 16, 17, 18] rfl)
          refine lv_icmp_eq (tgt := 108) hx hb dL_law_100 (by decide) (fun c_69 => ?_) (fun c_69 => ?_)
          · replace hm := rc_t hm c_69
            refine lv_iconst (v := 1) hx hb dL_law_108 (by decide) ?_
            refine lv_goto (tgt := 113) hx hb dL_law_109 (by decide) ?_
            refine W.widen (k := C0 + (49 - (n_28 + 1)) * 2958 + 193 + 1 + 1) (n := S0 + (49 - (n_28 + 1)) * 17762 + 1158 + 6 + 6) (by omega) (by omega) ?_
            exact hJ_113 (1 : Int32) σ_7 _ _ _ hm hO hW hS (lv_sub hl [1, 2, 3, 4, 5, 6, 7, 8, 9] rfl)
          · replace hm := rc_f hm c_69
            refine lv_iload hx hb dL_law_103 (lv_at hl 0 rfl) ?_
            refine lv_if_ne (tgt := 112) hx hb dL_law_105 (by decide) (fun c_68 => ?_) (fun c_68 => ?_)
            · replace hm := rc_f hm c_68
              refine lv_iconst (v := 0) hx hb dL_law_112 (by decide) ?_
              refine W.widen (k := C0 + (49 - (n_28 + 1)) * 2958 + 193 + 1 + 1) (n := S0 + (49 - (n_28 + 1)) * 17762 + 1158 + 6 + 6) (by omega) (by omega) ?_
              exact hJ_113 (0 : Int32) σ_7 _ _ _ hm hO hW hS (lv_sub hl [1, 2, 3, 4, 5, 6, 7, 8, 9] rfl)
            · replace hm := rc_t hm c_68
              refine lv_iconst (v := 1) hx hb dL_law_108 (by decide) ?_
              refine lv_goto (tgt := 113) hx hb dL_law_109 (by decide) ?_
              refine W.widen (k := C0 + (49 - (n_28 + 1)) * 2958 + 193 + 1 + 1) (n := S0 + (49 - (n_28 + 1)) * 17762 + 1158 + 6 + 6) (by omega) (by omega) ?_
              exact hJ_113 (1 : Int32) σ_7 _ _ _ hm hO hW hS (lv_sub hl [1, 2, 3, 4, 5, 6, 7, 8, 9] rfl)
        refine lv_icmp_ge (tgt := 59) hx hb dL_law_52 (by decide) (fun c_72 => ?_) (fun c_72 => ?_)
        · replace hm := rc_t hm c_72
          refine lv_iload hx hb dL_law_59 (lv_at hl 7 rfl) ?_
          refine lv_iconst (v := 5) hx hb dL_law_61 (by decide) ?_
          refine lv_icmp_ge (tgt := 69) hx hb dL_law_62 (by decide) (fun c_71 => ?_) (fun c_71 => ?_)
          · replace hm := rc_t hm c_71
            refine lv_aload_n hx hb dL_law_69 rfl (lv_at hl 2 rfl) ?_
            refine lv_iload hx hb dL_law_70 (lv_at hl 6 rfl) ?_
            refine lv_bipush (v := 31) hx hb dL_law_72 (by decide) ?_
            obtain ⟨w_70, σ_70, hc_70, hm0⟩ := rc_bd_inv hm
            clear hm
            refine rc_ciO ho hO hS (va_runS (As := [.ref z.1, .int v4, .int (31 : Int32)]) (rest := []) ⟨hx, hb, hml, hown, hts⟩ (k_L_pick l hl9 hT z v4 (31 : Int32) H.size _ _ _ hc_70) (va_cwS 3 hts (rc_gS tw_2_110 tw_2_111 tw_1_0 tw_2_112) rfl rfl rfl (by decide +kernel) ⟨Nat.le_of_ble_eq_true rfl, Nat.le_of_ble_eq_true rfl⟩) (rc_preSL hT hW hK hE hN hXz hS [.ref z.1, .int v4, .int (31 : Int32)]) rfl rfl hl.1 rfl (lv_room (Nat.le_of_ble_eq_true rfl)) dL_law_74 ⟨show C0 + (49 - (n_28 + 1)) * 2958 + 193 + 1 + 0 ≤ 600390 from by omega, show S0 + (49 - (n_28 + 1)) * 17762 + 1158 + 6 + 0 ≤ 7290679 from by omega⟩) (fun H locs hO hW hS => ?_)
            have hm := hm0
            clear hm0 hc_70
            refine W.widen (k := C0 + (49 - (n_28 + 1)) * 2958 + 193 + 1) (n := S0 + (49 - (n_28 + 1)) * 17762 + 1158 + 6) (by omega) (by omega) ?_
            exact hJ_77 w_70 σ_70 _ _ _ hm hO hW hS (lv_sub hl [0, 1, 2, 3, 4, 5, 6, 7] rfl)
          · replace hm := rc_f hm c_71
            refine lv_iconst (v := 3) hx hb dL_law_65 (by decide) ?_
            refine lv_goto (tgt := 77) hx hb dL_law_66 (by decide) ?_
            refine W.widen (k := C0 + (49 - (n_28 + 1)) * 2958 + 193 + 1) (n := S0 + (49 - (n_28 + 1)) * 17762 + 1158 + 6) (by omega) (by omega) ?_
            exact hJ_77 (3 : Int32) σ_4 _ _ _ hm hO hW hS (lv_sub hl [0, 1, 2, 3, 4, 5, 6, 7] rfl)
        · replace hm := rc_f hm c_72
          refine lv_iconst (v := 0) hx hb dL_law_55 (by decide) ?_
          refine lv_goto (tgt := 77) hx hb dL_law_56 (by decide) ?_
          refine W.widen (k := C0 + (49 - (n_28 + 1)) * 2958 + 193 + 1) (n := S0 + (49 - (n_28 + 1)) * 17762 + 1158 + 6) (by omega) (by omega) ?_
          exact hJ_77 (0 : Int32) σ_4 _ _ _ hm hO hW hS (lv_sub hl [0, 1, 2, 3, 4, 5, 6, 7] rfl)
  unfold f_L_law at hm
  refine lv_iconst (v := 0) hx hb dL_law_13 (by decide) ?_
  refine lv_istore_n (lv' := [(3, .int (0 : Int32)), (2, .ref o), (1, .ref a1), (0, .ref z.1)]) hx hb dL_law_14 rfl hl (by decide) rfl (fun ls hl => ?_)
  refine lv_aload_n hx hb dL_law_15 rfl (lv_at hl 1 rfl) ?_
  refine lv_iload_n hx hb dL_law_16 rfl (lv_at hl 0 rfl) ?_
  refine lv_aload_n hx hb dL_law_17 rfl (lv_at hl 2 rfl) ?_
  obtain ⟨w_1, σ_1, hc_1, hm0⟩ := rc_bd_inv hm
  clear hm
  refine rc_clO ho hO hS (va_runS (As := [.ref a1]) (rest := [.int (0 : Int32), .ref o]) ⟨hx, hb, hml, hown, hts⟩ (k_L_sum l hl9 hT z a1 h1 H.size _ _ _ hc_1) (va_cwS 1 hts (rc_gS tw_6_25 tw_6_26 tw_1_0 tw_6_27) rfl rfl rfl (by decide +kernel) ⟨Nat.le_of_ble_eq_true rfl, Nat.le_of_ble_eq_true rfl⟩) (rc_preSL hT hW hK hE hN hXz hS [.ref a1]) rfl rfl hl.1 rfl (lv_room (Nat.le_of_ble_eq_true rfl)) dL_law_18 ⟨show 309 + 193 ≤ 600390 from by omega, show 1876 + 1158 ≤ 7290679 from by omega⟩) (fun H locs hO hW hS => ?_)
  have hm := hm0
  clear hm0 hc_1
  have hi_2 := (rc_ix hm).1
  replace hm := (rc_ix hm).2
  refine rc_lastN hx hb hK2 hO hW ho hA0 hS hi_2 dL_law_21 (fun H locs hO hW hS => ?_)
  obtain ⟨φ_2, ephi⟩ : ∃ y : Nat → Int64, y = vp_updL φ (0 : Int32).toNatClampNeg w_1 := ⟨_, rfl⟩
  rw [← ephi] at hO
  replace hm := rc_lt_at hm ephi
  clear ephi
  refine lv_iconst (v := 0) hx hb dL_law_22 (by decide) ?_
  refine lv_istore (lv' := [(4, .int (0 : Int32)), (3, .int (0 : Int32)), (2, .ref o), (1, .ref a1), (0, .ref z.1)]) hx hb dL_law_23 hl (by decide) rfl (fun ls hl => ?_)
  refine lv_iconst (v := 0) hx hb dL_law_25 (by decide) ?_
  refine lv_istore (lv' := [(5, .int (0 : Int32)), (4, .int (0 : Int32)), (3, .int (0 : Int32)), (2, .ref o), (1, .ref a1), (0, .ref z.1)]) hx hb dL_law_26 hl (by decide) rfl (fun ls hl => ?_)
  refine W.widen (k := 309 + 193 + (49 - 49) * 2958) (n := 1876 + 1158 + (49 - 49) * 17762) (by omega) (by omega) ?_
  refine lp_28 a1 h1 (309 + 193) (1876 + 1158) (by omega) (by omega) _ (fun v3_74 v4_75 v5_76 σ_77 φ_77 H locs ls hm hO hW hS hl => ?_) 49 (Nat.le_refl _) (0 : Int32) (0 : Int32) (0 : Int32) σ_1 φ_2 _ _ _ hm hO hW hS (lv_sub hl [5, 4, 3, 2, 1, 0] rfl)
  refine lv_aload_n hx hb dL_law_433 rfl (lv_at hl 0 rfl) ?_
  refine lv_aload_n hx hb dL_law_434 rfl (lv_at hl 1 rfl) ?_
  refine lv_iload_n hx hb dL_law_435 rfl (lv_at hl 2 rfl) ?_
  obtain ⟨w_78, σ_78, hc_78, hm0⟩ := rc_bd_inv hm
  clear hm
  refine rc_ciO ho hO hS (va_runS (As := [.ref a1, .ref o, .int v3_74]) (rest := []) ⟨hx, hb, hml, hown, hts⟩ (k_L_isKept l hl9 hT z dL o φ_77 ho a1 v3_74 h1 H.size _ _ _ hc_78) (va_cwS 3 hts (rc_gS tw_7_68 tw_7_69 tw_1_0 tw_7_70) rfl rfl rfl (by decide +kernel) ⟨Nat.le_of_ble_eq_true rfl, Nat.le_of_ble_eq_true rfl⟩) (rc_preSO hT hW hK hE hN hXz hO hK2 hS [.ref a1, .ref o, .int v3_74]) rfl rfl hl.1 rfl (lv_room (Nat.le_of_ble_eq_true rfl)) dL_law_436 ⟨show 309 + 193 + 144942 + 1944 ≤ 600390 from by omega, show 1876 + 1158 + 870338 + 11664 ≤ 7290679 from by omega⟩) (fun H locs hO hW hS => ?_)
  have hm := hm0
  clear hm0 hc_78
  have h9 : w_78 = 1 := congrArg Prod.fst (Option.some.inj hm)
  rw [h9]
  exact ke 439 dL_law_439 _ _ _ _ _ (by omega) (by omega) hS
