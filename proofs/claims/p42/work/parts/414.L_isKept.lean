def f_L_isKept_44 (rf : rc_F) (z : rc_Z) (r0 : Nat) (v2 : Int32) (v3 : Int32) (K : Int32 → Int32 → rc_S → (Nat → Int64) → Option (Int32 × rc_S)) : Nat → Int32 → Int32 → rc_S → (Nat → Int64) → Option (Int32 × rc_S)
  | 0, _, _, _, _ => none
  | n_44 + 1, v4, v5, σ, φ =>
    if v4 ≤ 0 then
      K v4 v5 σ φ
    else
      rc_lt (v4 + (-1)) fun v4_6 =>
      rc_bd (f_L_undo rf z r0 σ) fun w_7 σ_7 =>
      if w_7 = v4_6 then
        rc_bd (f_L_sum rf z r0 σ_7) fun w_8 σ_8 =>
        rc_ck (rc_in v5 60) <|
        if (lg_cmp w_8 (φ v5.toNatClampNeg)) = 0 then
          rc_lt (v5 + (-1)) fun v5_10 =>
          f_L_isKept_44 rf z r0 v2 v3 K n_44 v4_6 v5_10 σ_8 φ
        else
          some ((0 : Int32), σ_8)
      else
        some ((0 : Int32), σ_7)
def f_L_isKept (rf : rc_F) (z : rc_Z) (a0 : Nat) (u2 : Int32) (σ : rc_S) (φ : Nat → Int64) : Option (Int32 × rc_S) :=
  rc_bd (f_L_account rf z a0 (0 : Int32) σ) fun w_1 σ_1 =>
  rc_bd (f_X8_save rf a0 σ_1) fun w_2 σ_2 =>
  if w_2 = w_1 then
    rc_bd (f_L_account rf z a0 (10 : Int32) σ_2) fun w_3 σ_3 =>
    if w_3 = (if u2 < (8 : Int32) then u2 else (8 : Int32)) then
      rc_lt (if u2 < (8 : Int32) then u2 else (8 : Int32)) fun v4_4 =>
      rc_lt (u2 - (1 : Int32)) fun v5_5 =>
      f_L_isKept_44 rf z a0 u2 w_1 (fun v4_14 v5_15 σ_16 φ_16 =>
        rc_bd (f_L_undo rf z a0 σ_16) fun w_17 σ_17 =>
        if w_17 = (-79 : Int32) then
          rc_bd (f_L_restore rf z a0 σ_17) fun w_18 σ_18 =>
          if w_18 = w_1 then
            rc_bd (f_L_sum rf z a0 σ_18) fun w_19 σ_19 =>
            rc_ck (rc_in u2 60) <|
            if (lg_cmp w_19 (φ_16 u2.toNatClampNeg)) = 0 then
              rc_bd (f_L_undo rf z a0 σ_19) fun w_21 σ_21 =>
              if w_21 = (-79 : Int32) then
                some ((1 : Int32), σ_21)
              else
                some ((0 : Int32), σ_21)
            else
              some ((0 : Int32), σ_19)
          else
            some ((0 : Int32), σ_18)
        else
          some ((0 : Int32), σ_17)
      ) 9 v4_4 v5_5 σ_3 φ
    else
      some ((0 : Int32), σ_3)
  else
    some ((0 : Int32), σ_2)
set_option maxHeartbeats 8000000 in
set_option maxRecDepth 100000 in
theorem k_L_isKept (l : Launch) (hl9 : l.stackTraces = false) {Y : rc_Y} {sh : Nat → Nat} {rf : rc_F} (hT : rc_T Y sh rf) (z : rc_Z) (dL : ClassId) (o : Nat) (φ : Nat → Int64) (ho : sh o = 0) (a0 : Nat) (u2 : Int32) (h0 : sh a0 = 9) (sz : Nat) (σ σ' : rc_S) (r : Int32) (hm : f_L_isKept rf z a0 u2 σ φ = some (r, σ')) : Met l yL_isKept (Cond.code yL_isKept cL_isKept 6 (some .boolean) :: rc_big) ({ frames := 10, cells := 1944, slots := 11664, locals := 172 } : Room) (rc_PO Y sh rf σ sz z dL o φ [.ref a0, .ref o, .int u2]) (va_Qi (fun (r' : Int32) (_ : Unit) => r' = r) (fun _ t => rc_W Y sh rf σ' t.heap) (rc_A sh sz)) 1944 11664 (rc_A sh sz) := by
  refine Met.ofW (cc := cL_isKept) (maxL := 6) (ret := (some .boolean)) (by decide +kernel) rfl ?_
  intro p e s m args below meth c s₁ B hml hv
  obtain ⟨rfl, hsz, ⟨hW, hK, hE⟩, hN, hXz, hO, hK2⟩ := hv
  have hx := B.exec
  have hb := B.bytes
  have hr := B.returns
  have hts : ∀ w ∈ rc_big, w.before _ s = true := fun w h => atoms_spec (ws := Cond.code yL_isKept cL_isKept 6 (some .boolean) :: rc_big) B.pre w (List.mem_cons_of_mem _ h)
  have hown : s.vm.findClass RL = some m.cls := findClass_of_methodNamed B.named
  have hlocks := B.notSynchronized
  clear B
  subst hsz
  have hS : va_S (rc_A sh s.heap.size) s.heap s.heap [] := va_S.rf
  have hl := lv_entry ([.ref a0, .ref o, .int u2]) (n := 6) (Nat.le_of_ble_eq_true rfl)
  rw [lg_entry_eq]
  generalize (lg_sl ([.ref a0, .ref o, .int u2]) ++ List.replicate (6 - (lg_sl ([.ref a0, .ref o, .int u2])).length) Slot.unset).toArray = ls at hl ⊢
  have hl : lv_has ls 6 [(0, .ref a0), (1, .ref o), (2, .int u2)] := hl
  have lp_44 : ∀ (r0 : Nat) (v2 : Int32) (v3 : Int32) (hr0 : sh r0 = 9) (C0 S0 : Nat) (hC0 : C0 ≤ 2) (hS0 : S0 ≤ 12) (K : Int32 → Int32 → rc_S → (Nat → Int64) → Option (Int32 × rc_S)) (hKK : ∀ (v4 : Int32) (v5 : Int32) (σ : rc_S) (φ : Nat → Int64) (H : Heap) (locs : List Loc) (ls : Array Slot), K v4 v5 σ φ = some (r, σ') → va_P Y.2.1 vwCl (rc_ro dL o φ) H → rc_W Y sh rf σ H → va_S (rc_A sh s.heap.size) s.heap H locs → lv_has ls 6 [(0, .ref r0), (1, .ref o), (2, .int v2), (3, .int v3)] → W p l e (headSpec (Cond.code yL_isKept cL_isKept 6 (some .boolean) :: rc_big) ({ frames := 10, cells := 1944, slots := 11664, locals := 172 } : Room)).room s m (([.ref a0, .ref o, .int u2] : List Value).toArray) below meth c H locs (C0 + 1746) (S0 + 10476) (MQ below (va_Qi (fun (r' : Int32) (_ : Unit) => r' = r) (fun _ t => rc_W Y sh rf σ' t.heap) (rc_A sh s.heap.size)) ([.ref a0, .ref o, .int u2] : List Value).toArray s 1944 11664 (rc_A sh s.heap.size)) (F0 m 81 ls [])) (n : Nat) (hn : n ≤ 9) (v4 : Int32) (v5 : Int32) (σ : rc_S) (φ : Nat → Int64) (H : Heap) (locs : List Loc) (ls : Array Slot), f_L_isKept_44 rf z r0 v2 v3 K n v4 v5 σ φ = some (r, σ') → va_P Y.2.1 vwCl (rc_ro dL o φ) H → rc_W Y sh rf σ H → va_S (rc_A sh s.heap.size) s.heap H locs → lv_has ls 6 [(0, .ref r0), (1, .ref o), (2, .int v2), (3, .int v3), (4, .int v4), (5, .int v5)] → W p l e (headSpec (Cond.code yL_isKept cL_isKept 6 (some .boolean) :: rc_big) ({ frames := 10, cells := 1944, slots := 11664, locals := 172 } : Room)).room s m (([.ref a0, .ref o, .int u2] : List Value).toArray) below meth c H locs (C0 + (9 - n) * 194) (S0 + (9 - n) * 1164) (MQ below (va_Qi (fun (r' : Int32) (_ : Unit) => r' = r) (fun _ t => rc_W Y sh rf σ' t.heap) (rc_A sh s.heap.size)) ([.ref a0, .ref o, .int u2] : List Value).toArray s 1944 11664 (rc_A sh s.heap.size)) (F0 m 44 ls []) := by
    intro r0 v2 v3 hr0 C0 S0 hC0 hS0 K hKK n
    induction n with
    | zero =>
      intro hn v4 v5 σ φ H locs ls hm
      rw [f_L_isKept_44] at hm
      cases hm
    | succ n_44 ih =>
      intro hn v4 v5 σ φ H locs ls hm hO hW hS hl
      rw [f_L_isKept_44] at hm
      refine lv_iload hx hb dL_isKept_44 (lv_at hl 4 rfl) ?_
      refine lv_if_le (tgt := 81) hx hb dL_isKept_46 (by decide) (fun c_13 => ?_) (fun c_13 => ?_)
      · replace hm := rc_t hm c_13
        refine W.widen (k := C0 + 1746) (n := S0 + 10476) (by omega) (by omega) ?_
        exact hKK v4 v5 σ φ _ _ _ hm hO hW hS (lv_sub hl [0, 1, 2, 3] rfl)
      · replace hm := rc_f hm c_13
        obtain ⟨v4_6, ev⟩ : ∃ y : Int32, y = (v4 + (-1)) := ⟨_, rfl⟩
        replace hm := rc_lt_at hm ev
        refine lv_iinc (v := v4_6) (lv' := [(4, .int v4_6), (0, .ref r0), (1, .ref o), (2, .int v2), (3, .int v3), (5, .int v5)]) hx hb dL_isKept_49 hl (k := 4) rfl (by rw [ev]; rfl) (by decide) rfl (fun ls hl => ?_)
        clear ev
        refine lv_aload_n hx hb dL_isKept_52 rfl (lv_at hl 1 rfl) ?_
        obtain ⟨w_7, σ_7, hc_7, hm0⟩ := rc_bd_inv hm
        clear hm
        refine rc_ciO ho hO hS (vx_runSW (As := [.ref r0]) (rest := []) ⟨hx, hb, hml, hown, hts⟩ (k_L_undo l hl9 hT z r0 hr0 H.size _ _ _ hc_7) (vx_cwSW 1 hts (rc_gS tw_7_75 tw_7_76 tw_1_0 tw_7_77) rfl rfl rfl (by decide +kernel) ⟨Nat.le_of_ble_eq_true rfl, Nat.le_of_ble_eq_true rfl⟩) (rc_preSL hT hW hK hE hN hXz hS [.ref r0]) rfl rfl hl.1 rfl (lv_room (Nat.le_of_ble_eq_true rfl)) dL_isKept_53 ⟨show C0 + (9 - (n_44 + 1)) * 194 + 1 ≤ 1944 from by omega, show S0 + (9 - (n_44 + 1)) * 1164 + 6 ≤ 11664 from by omega⟩) (fun H locs hO hW hS => ?_)
        have hm := hm0
        clear hm0 hc_7
        refine lv_iload hx hb dL_isKept_56 (lv_at hl 0 rfl) ?_
        refine lv_icmp_ne (tgt := 73) hx hb dL_isKept_58 (by decide) (fun c_12 => ?_) (fun c_12 => ?_)
        · replace hm := rc_f hm c_12
          refine lv_iconst (v := 0) hx hb dL_isKept_73 (by decide) ?_
          exact rc_ezret hx hb hr hlocks hW hS (by omega) (by omega) rfl hm dL_isKept_74
        · replace hm := rc_t hm c_12
          refine lv_aload_n hx hb dL_isKept_61 rfl (lv_at hl 1 rfl) ?_
          obtain ⟨w_8, σ_8, hc_8, hm0⟩ := rc_bd_inv hm
          clear hm
          refine rc_clO ho hO hS (va_runS (As := [.ref r0]) (rest := []) ⟨hx, hb, hml, hown, hts⟩ (k_L_sum l hl9 hT z r0 hr0 H.size _ _ _ hc_8) (va_cwS 1 hts (rc_gS tw_6_25 tw_6_26 tw_1_0 tw_6_27) rfl rfl rfl (by decide +kernel) ⟨Nat.le_of_ble_eq_true rfl, Nat.le_of_ble_eq_true rfl⟩) (rc_preSL hT hW hK hE hN hXz hS [.ref r0]) rfl rfl hl.1 rfl (lv_room (Nat.le_of_ble_eq_true rfl)) dL_isKept_62 ⟨show C0 + (9 - (n_44 + 1)) * 194 + 1 + 193 ≤ 1944 from by omega, show S0 + (9 - (n_44 + 1)) * 1164 + 6 + 1158 ≤ 11664 from by omega⟩) (fun H locs hO hW hS => ?_)
          have hm := hm0
          clear hm0 hc_8
          refine lv_aload_n hx hb dL_isKept_65 rfl (lv_at hl 2 rfl) ?_
          refine lv_iload hx hb dL_isKept_66 (lv_at hl 5 rfl) ?_
          have hi_9 := (rc_ix hm).1
          replace hm := (rc_ix hm).2
          refine rc_laldO hx hb hK2 hO hi_9 dL_isKept_68 ?_
          refine W.lcmp hx hb dL_isKept_69 ?_
          refine lv_if_eq (tgt := 75) hx hb dL_isKept_70 (by decide) (fun c_11 => ?_) (fun c_11 => ?_)
          · replace hm := rc_t hm c_11
            obtain ⟨v5_10, ev⟩ : ∃ y : Int32, y = (v5 + (-1)) := ⟨_, rfl⟩
            replace hm := rc_lt_at hm ev
            refine lv_iinc (v := v5_10) (lv' := [(5, .int v5_10), (4, .int v4_6), (0, .ref r0), (1, .ref o), (2, .int v2), (3, .int v3)]) hx hb dL_isKept_75 hl (k := 5) rfl (by rw [ev]; rfl) (by decide) rfl (fun ls hl => ?_)
            clear ev
            refine lv_goto (tgt := 44) hx hb dL_isKept_78 (by decide) ?_
            refine W.widen (k := C0 + (9 - n_44) * 194) (n := S0 + (9 - n_44) * 1164) (by omega) (by omega) ?_
            exact ih (by omega) v4_6 v5_10 σ_8 φ _ _ _ hm hO hW hS (lv_sub hl [2, 3, 4, 5, 1, 0] rfl)
          · replace hm := rc_f hm c_11
            refine lv_iconst (v := 0) hx hb dL_isKept_73 (by decide) ?_
            exact rc_ezret hx hb hr hlocks hW hS (by omega) (by omega) rfl hm dL_isKept_74
  unfold f_L_isKept at hm
  refine lv_aload_n hx hb dL_isKept_0 rfl (lv_at hl 0 rfl) ?_
  refine lv_iconst (v := 0) hx hb dL_isKept_1 (by decide) ?_
  obtain ⟨w_1, σ_1, hc_1, hm0⟩ := rc_bd_inv hm
  clear hm
  refine rc_ciO ho hO hS (vx_runSW (As := [.ref a0, .int (0 : Int32)]) (rest := []) ⟨hx, hb, hml, hown, hts⟩ (k_L_account l hl9 hT z a0 (0 : Int32) h0 s.heap.size _ _ _ hc_1) (vx_cwSW 2 hts (rc_gS tw_3_118 tw_3_119 tw_1_0 tw_3_120) rfl rfl rfl (by decide +kernel) ⟨Nat.le_of_ble_eq_true rfl, Nat.le_of_ble_eq_true rfl⟩) (rc_preSL hT hW hK hE hN hXz hS [.ref a0, .int (0 : Int32)]) rfl rfl hl.1 rfl (lv_room (Nat.le_of_ble_eq_true rfl)) dL_isKept_2 ⟨show 0 + 1 ≤ 1944 from by omega, show 0 + 6 ≤ 11664 from by omega⟩) (fun H locs hO hW hS => ?_)
  have hm := hm0
  clear hm0 hc_1
  refine lv_istore_n (lv' := [(3, .int w_1), (0, .ref a0), (1, .ref o), (2, .int u2)]) hx hb dL_isKept_5 rfl hl (by decide) rfl (fun ls hl => ?_)
  refine lv_aload_n hx hb dL_isKept_6 rfl (lv_at hl 1 rfl) ?_
  obtain ⟨w_2, σ_2, hc_2, hm0⟩ := rc_bd_inv hm
  clear hm
  refine rc_ciO ho hO hS (va_runV (As := []) (rest := []) ⟨hx, hb, hml, hown, hts⟩ (k_X8_save l hT a0 h0 H.size _ _ _ hc_2) (cwV 0 hts (rc_gV tw_7_71 tw_7_72 tw_7_73 tw_1_1 tw_7_74) rfl rfl rfl (by decide +kernel) ⟨Nat.le_of_ble_eq_true rfl, Nat.le_of_ble_eq_true rfl⟩) (rc_preV hT hW hK hE hS h0 (by decide) rfl (q := (RX8, TX8, 9)) rfl []) rfl rfl hl.1 rfl (lv_room (Nat.le_of_ble_eq_true rfl)) dL_isKept_7 ⟨show 0 + 1 + 0 ≤ 1944 from by omega, show 0 + 6 + 0 ≤ 11664 from by omega⟩) (fun H locs hO hW hS => ?_)
  have hm := hm0
  clear hm0 hc_2
  refine lv_iload_n hx hb dL_isKept_10 rfl (lv_at hl 0 rfl) ?_
  refine lv_icmp_ne (tgt := 29) hx hb dL_isKept_11 (by decide) (fun c_27 => ?_) (fun c_27 => ?_)
  · replace hm := rc_f hm c_27
    refine lv_iconst (v := 0) hx hb dL_isKept_29 (by decide) ?_
    exact rc_ezret hx hb hr hlocks hW hS (by omega) (by omega) rfl hm dL_isKept_30
  · replace hm := rc_t hm c_27
    refine lv_aload_n hx hb dL_isKept_14 rfl (lv_at hl 1 rfl) ?_
    refine lv_bipush (v := 10) hx hb dL_isKept_15 (by decide) ?_
    obtain ⟨w_3, σ_3, hc_3, hm0⟩ := rc_bd_inv hm
    clear hm
    refine rc_ciO ho hO hS (vx_runSW (As := [.ref a0, .int (10 : Int32)]) (rest := []) ⟨hx, hb, hml, hown, hts⟩ (k_L_account l hl9 hT z a0 (10 : Int32) h0 H.size _ _ _ hc_3) (vx_cwSW 2 hts (rc_gS tw_3_118 tw_3_119 tw_1_0 tw_3_120) rfl rfl rfl (by decide +kernel) ⟨Nat.le_of_ble_eq_true rfl, Nat.le_of_ble_eq_true rfl⟩) (rc_preSL hT hW hK hE hN hXz hS [.ref a0, .int (10 : Int32)]) rfl rfl hl.1 rfl (lv_room (Nat.le_of_ble_eq_true rfl)) dL_isKept_17 ⟨show 0 + 1 + 0 + 1 ≤ 1944 from by omega, show 0 + 6 + 0 + 6 ≤ 11664 from by omega⟩) (fun H locs hO hW hS => ?_)
    have hm := hm0
    clear hm0 hc_3
    refine lv_bipush (v := 8) hx hb dL_isKept_20 (by decide) ?_
    refine lv_iload_n hx hb dL_isKept_22 rfl (lv_at hl 3 rfl) ?_
    refine va_mmin hx hb (hml.trans hl.1.symm) hown (hts _ tw_6_182) (hts _ tw_3_31) (hts _ tw_1_22) (hts _ tw_3_32) (Nat.le_of_ble_eq_true rfl) (Nat.le_of_ble_eq_true rfl) (show 0 + 1 + 0 + 1 ≤ 1944 from by omega) (show 0 + 6 + 0 + 6 ≤ 11664 from by omega) dL_isKept_23 ?_
    refine lv_icmp_eq (tgt := 31) hx hb dL_isKept_26 (by decide) (fun c_26 => ?_) (fun c_26 => ?_)
    · replace hm := rc_t hm c_26
      refine lv_bipush (v := 8) hx hb dL_isKept_31 (by decide) ?_
      refine lv_iload_n hx hb dL_isKept_33 rfl (lv_at hl 3 rfl) ?_
      refine va_mmin hx hb (hml.trans hl.1.symm) hown (hts _ tw_6_182) (hts _ tw_3_31) (hts _ tw_1_22) (hts _ tw_3_32) (Nat.le_of_ble_eq_true rfl) (Nat.le_of_ble_eq_true rfl) (show 0 + 1 + 0 + 1 ≤ 1944 from by omega) (show 0 + 6 + 0 + 6 ≤ 11664 from by omega) dL_isKept_34 ?_
      refine lv_topi (fun v4_4 ev => ?_)
      replace hm := rc_lt_at hm ev
      clear ev
      refine lv_istore (lv' := [(4, .int v4_4), (3, .int w_1), (0, .ref a0), (1, .ref o), (2, .int u2)]) hx hb dL_isKept_37 hl (by decide) rfl (fun ls hl => ?_)
      refine lv_iload_n hx hb dL_isKept_39 rfl (lv_at hl 4 rfl) ?_
      refine lv_iconst (v := 1) hx hb dL_isKept_40 (by decide) ?_
      refine lv_isub hx hb dL_isKept_41 ?_
      refine lv_topi (fun v5_5 ev => ?_)
      replace hm := rc_lt_at hm ev
      clear ev
      refine lv_istore (lv' := [(5, .int v5_5), (4, .int v4_4), (3, .int w_1), (0, .ref a0), (1, .ref o), (2, .int u2)]) hx hb dL_isKept_42 hl (by decide) rfl (fun ls hl => ?_)
      refine W.widen (k := 0 + 1 + 0 + 1 + (9 - 9) * 194) (n := 0 + 6 + 0 + 6 + (9 - 9) * 1164) (by omega) (by omega) ?_
      refine lp_44 a0 u2 w_1 h0 (0 + 1 + 0 + 1) (0 + 6 + 0 + 6) (by omega) (by omega) _ (fun v4_14 v5_15 σ_16 φ_16 H locs ls hm hO hW hS hl => ?_) 9 (Nat.le_refl _) v4_4 v5_5 σ_3 φ _ _ _ hm hO hW hS (lv_sub hl [3, 4, 5, 2, 1, 0] rfl)
      refine lv_aload_n hx hb dL_isKept_81 rfl (lv_at hl 0 rfl) ?_
      obtain ⟨w_17, σ_17, hc_17, hm0⟩ := rc_bd_inv hm
      clear hm
      refine rc_ciO ho hO hS (vx_runSW (As := [.ref a0]) (rest := []) ⟨hx, hb, hml, hown, hts⟩ (k_L_undo l hl9 hT z a0 h0 H.size _ _ _ hc_17) (vx_cwSW 1 hts (rc_gS tw_7_75 tw_7_76 tw_1_0 tw_7_77) rfl rfl rfl (by decide +kernel) ⟨Nat.le_of_ble_eq_true rfl, Nat.le_of_ble_eq_true rfl⟩) (rc_preSL hT hW hK hE hN hXz hS [.ref a0]) rfl rfl hl.1 rfl (lv_room (Nat.le_of_ble_eq_true rfl)) dL_isKept_82 ⟨show 0 + 1 + 0 + 1 + 1746 + 1 ≤ 1944 from by omega, show 0 + 6 + 0 + 6 + 10476 + 6 ≤ 11664 from by omega⟩) (fun H locs hO hW hS => ?_)
      have hm := hm0
      clear hm0 hc_17
      refine lv_bipush (v := (-79)) hx hb dL_isKept_85 (by decide) ?_
      refine lv_icmp_ne (tgt := 122) hx hb dL_isKept_87 (by decide) (fun c_25 => ?_) (fun c_25 => ?_)
      · replace hm := rc_f hm c_25
        refine lv_iconst (v := 0) hx hb dL_isKept_122 (by decide) ?_
        exact rc_ezret hx hb hr hlocks hW hS (by omega) (by omega) rfl hm dL_isKept_123
      · replace hm := rc_t hm c_25
        refine lv_aload_n hx hb dL_isKept_90 rfl (lv_at hl 0 rfl) ?_
        obtain ⟨w_18, σ_18, hc_18, hm0⟩ := rc_bd_inv hm
        clear hm
        refine rc_ciO ho hO hS (vx_runSW (As := [.ref a0]) (rest := []) ⟨hx, hb, hml, hown, hts⟩ (k_L_restore l hl9 hT z a0 h0 H.size _ _ _ hc_18) (vx_cwSW 1 hts (rc_gS tw_7_86 tw_7_87 tw_1_0 tw_7_88) rfl rfl rfl (by decide +kernel) ⟨Nat.le_of_ble_eq_true rfl, Nat.le_of_ble_eq_true rfl⟩) (rc_preSL hT hW hK hE hN hXz hS [.ref a0]) rfl rfl hl.1 rfl (lv_room (Nat.le_of_ble_eq_true rfl)) dL_isKept_91 ⟨show 0 + 1 + 0 + 1 + 1746 + 1 + 1 ≤ 1944 from by omega, show 0 + 6 + 0 + 6 + 10476 + 6 + 6 ≤ 11664 from by omega⟩) (fun H locs hO hW hS => ?_)
        have hm := hm0
        clear hm0 hc_18
        refine lv_iload_n hx hb dL_isKept_94 rfl (lv_at hl 3 rfl) ?_
        refine lv_icmp_ne (tgt := 122) hx hb dL_isKept_95 (by decide) (fun c_24 => ?_) (fun c_24 => ?_)
        · replace hm := rc_f hm c_24
          refine lv_iconst (v := 0) hx hb dL_isKept_122 (by decide) ?_
          exact rc_ezret hx hb hr hlocks hW hS (by omega) (by omega) rfl hm dL_isKept_123
        · replace hm := rc_t hm c_24
          refine lv_aload_n hx hb dL_isKept_98 rfl (lv_at hl 0 rfl) ?_
          obtain ⟨w_19, σ_19, hc_19, hm0⟩ := rc_bd_inv hm
          clear hm
          refine rc_clO ho hO hS (va_runS (As := [.ref a0]) (rest := []) ⟨hx, hb, hml, hown, hts⟩ (k_L_sum l hl9 hT z a0 h0 H.size _ _ _ hc_19) (va_cwS 1 hts (rc_gS tw_6_25 tw_6_26 tw_1_0 tw_6_27) rfl rfl rfl (by decide +kernel) ⟨Nat.le_of_ble_eq_true rfl, Nat.le_of_ble_eq_true rfl⟩) (rc_preSL hT hW hK hE hN hXz hS [.ref a0]) rfl rfl hl.1 rfl (lv_room (Nat.le_of_ble_eq_true rfl)) dL_isKept_99 ⟨show 0 + 1 + 0 + 1 + 1746 + 1 + 1 + 193 ≤ 1944 from by omega, show 0 + 6 + 0 + 6 + 10476 + 6 + 6 + 1158 ≤ 11664 from by omega⟩) (fun H locs hO hW hS => ?_)
          have hm := hm0
          clear hm0 hc_19
          refine lv_aload_n hx hb dL_isKept_102 rfl (lv_at hl 1 rfl) ?_
          refine lv_iload_n hx hb dL_isKept_103 rfl (lv_at hl 2 rfl) ?_
          have hi_20 := (rc_ix hm).1
          replace hm := (rc_ix hm).2
          refine rc_laldO hx hb hK2 hO hi_20 dL_isKept_104 ?_
          refine W.lcmp hx hb dL_isKept_105 ?_
          refine lv_if_ne (tgt := 122) hx hb dL_isKept_106 (by decide) (fun c_23 => ?_) (fun c_23 => ?_)
          · replace hm := rc_f hm c_23
            refine lv_iconst (v := 0) hx hb dL_isKept_122 (by decide) ?_
            exact rc_ezret hx hb hr hlocks hW hS (by omega) (by omega) rfl hm dL_isKept_123
          · replace hm := rc_t hm c_23
            refine lv_aload_n hx hb dL_isKept_109 rfl (lv_at hl 0 rfl) ?_
            obtain ⟨w_21, σ_21, hc_21, hm0⟩ := rc_bd_inv hm
            clear hm
            refine rc_ciO ho hO hS (vx_runSW (As := [.ref a0]) (rest := []) ⟨hx, hb, hml, hown, hts⟩ (k_L_undo l hl9 hT z a0 h0 H.size _ _ _ hc_21) (vx_cwSW 1 hts (rc_gS tw_7_75 tw_7_76 tw_1_0 tw_7_77) rfl rfl rfl (by decide +kernel) ⟨Nat.le_of_ble_eq_true rfl, Nat.le_of_ble_eq_true rfl⟩) (rc_preSL hT hW hK hE hN hXz hS [.ref a0]) rfl rfl hl.1 rfl (lv_room (Nat.le_of_ble_eq_true rfl)) dL_isKept_110 ⟨show 0 + 1 + 0 + 1 + 1746 + 1 + 1 + 193 + 1 ≤ 1944 from by omega, show 0 + 6 + 0 + 6 + 10476 + 6 + 6 + 1158 + 6 ≤ 11664 from by omega⟩) (fun H locs hO hW hS => ?_)
            have hm := hm0
            clear hm0 hc_21
            refine lv_bipush (v := (-79)) hx hb dL_isKept_113 (by decide) ?_
            refine lv_icmp_ne (tgt := 122) hx hb dL_isKept_115 (by decide) (fun c_22 => ?_) (fun c_22 => ?_)
            · replace hm := rc_f hm c_22
              refine lv_iconst (v := 0) hx hb dL_isKept_122 (by decide) ?_
              exact rc_ezret hx hb hr hlocks hW hS (by omega) (by omega) rfl hm dL_isKept_123
            · replace hm := rc_t hm c_22
              refine lv_iconst (v := 1) hx hb dL_isKept_118 (by decide) ?_
              refine lv_goto (tgt := 123) hx hb dL_isKept_119 (by decide) ?_
              exact rc_ezret hx hb hr hlocks hW hS (by omega) (by omega) rfl hm dL_isKept_123
    · replace hm := rc_f hm c_26
      refine lv_iconst (v := 0) hx hb dL_isKept_29 (by decide) ?_
      exact rc_ezret hx hb hr hlocks hW hS (by omega) (by omega) rfl hm dL_isKept_30
