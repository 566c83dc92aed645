def f_L_cell (rf : rc_F) (z : rc_Z) (u1 : Int32) (σ : rc_S) : Option (Int32 × rc_S) :=
  if (Int32.ofNat z.2.1) ≤ u1 then
    some (((40503 : Int32) * u1), σ)
  else
    rc_ck (rc_in u1 z.2.1) <|
    some ((z.2.2 u1.toNatClampNeg), σ)
set_option maxHeartbeats 8000000 in
set_option maxRecDepth 100000 in
theorem k_L_cell (l : Launch) (hl9 : l.stackTraces = false) {Y : rc_Y} {sh : Nat → Nat} {rf : rc_F} (hT : rc_T Y sh rf) (z : rc_Z) (u1 : Int32) (sz : Nat) (σ σ' : rc_S) (r : Int32) (hm : f_L_cell rf z u1 σ = some (r, σ')) : Met l yL_cell (Cond.code yL_cell cL_cell 2 (some .int) :: rc_big) ({ frames := 0, cells := 0, slots := 0, locals := 0 } : Room) (rc_PL Y sh rf σ sz z [.ref z.1, .int u1]) (va_Qi (fun (r' : Int32) (_ : Unit) => r' = r) (fun _ t => rc_W Y sh rf σ' t.heap) (rc_A sh sz)) 0 0 (rc_A sh sz) := by
  refine Met.ofW (cc := cL_cell) (maxL := 2) (ret := (some .int)) (by decide +kernel) rfl ?_
  intro p e s m args below meth c s₁ B hml hv
  obtain ⟨rfl, hsz, ⟨hW, hK, hE⟩, hN, hXz⟩ := hv
  have hx := B.exec
  have hb := B.bytes
  have hr := B.returns
  have hts : ∀ w ∈ rc_big, w.before _ s = true := fun w h => atoms_spec (ws := Cond.code yL_cell cL_cell 2 (some .int) :: rc_big) B.pre w (List.mem_cons_of_mem _ h)
  have hown : s.vm.findClass RL = some m.cls := findClass_of_methodNamed B.named
  have hlocks := B.notSynchronized
  clear B
  subst hsz
  have hS : va_S (rc_A sh s.heap.size) s.heap s.heap [] := va_S.rf
  have hl := lv_entry ([.ref z.1, .int u1]) (n := 2) (Nat.le_of_ble_eq_true rfl)
  rw [lg_entry_eq]
  generalize (lg_sl ([.ref z.1, .int u1]) ++ List.replicate (2 - (lg_sl ([.ref z.1, .int u1])).length) Slot.unset).toArray = ls at hl ⊢
  have hl : lv_has ls 2 [(0, .ref z.1), (1, .int u1)] := hl
  unfold f_L_cell at hm
  refine lv_iload_n hx hb dL_cell_0 rfl (lv_at hl 1 rfl) ?_
  refine lv_aload_n hx hb dL_cell_1 rfl (lv_at hl 0 rfl) ?_
  refine va_slen hx hb hXz.1 (rc_Xb hT hE hXz).1 (rc_Xb hT hE hXz).2 hS dL_cell_2 ?_
  refine lv_icmp_ge (tgt := 12) hx hb dL_cell_3 (by decide) (fun c_2 => ?_) (fun c_2 => ?_)
  · replace hm := rc_t hm c_2
    refine W.ldc hx hb hown (hts _ tw_2_116) rfl dL_cell_12 ?_
    refine lv_iload_n hx hb dL_cell_14 rfl (lv_at hl 1 rfl) ?_
    refine lv_imul hx hb dL_cell_15 ?_
    exact rc_eiret hx hb hr hlocks hW hS (by omega) (by omega) hm dL_cell_16
  · replace hm := rc_f hm c_2
    refine lv_aload_n hx hb dL_cell_6 rfl (lv_at hl 0 rfl) ?_
    refine lv_iload_n hx hb dL_cell_7 rfl (lv_at hl 1 rfl) ?_
    have hi_1 := (rc_ix hm).1
    replace hm := (rc_ix hm).2
    refine va_sld hx hb hXz.1 (rc_Xb hT hE hXz).1 (rc_Xb hT hE hXz).2 hS hi_1 dL_cell_8 ?_
    refine lv_goto (tgt := 16) hx hb dL_cell_9 (by decide) ?_
    exact rc_eiret hx hb hr hlocks hW hS (by omega) (by omega) hm dL_cell_16
def f_L_pick (rf : rc_F) (z : rc_Z) (u1 : Int32) (u2 : Int32) (σ : rc_S) : Option (Int32 × rc_S) :=
  rc_bd (f_L_cell rf z u1 σ) fun w_1 σ_1 =>
  rc_ck (decide (¬ u2 = 0)) <|
  some (((((w_1).toUInt32 >>> (((1 : Int32)).toUInt32 &&& Int32.toUInt32 31)).toInt32) - (((w_1).toUInt32 >>> (((1 : Int32)).toUInt32 &&& Int32.toUInt32 31)).toInt32) / u2 * u2), σ_1)
set_option maxHeartbeats 8000000 in
set_option maxRecDepth 100000 in
theorem k_L_pick (l : Launch) (hl9 : l.stackTraces = false) {Y : rc_Y} {sh : Nat → Nat} {rf : rc_F} (hT : rc_T Y sh rf) (z : rc_Z) (u1 : Int32) (u2 : Int32) (sz : Nat) (σ σ' : rc_S) (r : Int32) (hm : f_L_pick rf z u1 u2 σ = some (r, σ')) : Met l yL_pick (Cond.code yL_pick cL_pick 3 (some .int) :: rc_big) ({ frames := 1, cells := 0, slots := 0, locals := 21 } : Room) (rc_PL Y sh rf σ sz z [.ref z.1, .int u1, .int u2]) (va_Qi (fun (r' : Int32) (_ : Unit) => r' = r) (fun _ t => rc_W Y sh rf σ' t.heap) (rc_A sh sz)) 0 0 (rc_A sh sz) := by
  refine Met.ofW (cc := cL_pick) (maxL := 3) (ret := (some .int)) (by decide +kernel) rfl ?_
  intro p e s m args below meth c s₁ B hml hv
  obtain ⟨rfl, hsz, ⟨hW, hK, hE⟩, hN, hXz⟩ := hv
  have hx := B.exec
  have hb := B.bytes
  have hr := B.returns
  have hts : ∀ w ∈ rc_big, w.before _ s = true := fun w h => atoms_spec (ws := Cond.code yL_pick cL_pick 3 (some .int) :: rc_big) B.pre w (List.mem_cons_of_mem _ h)
  have hown : s.vm.findClass RL = some m.cls := findClass_of_methodNamed B.named
  have hlocks := B.notSynchronized
  clear B
  subst hsz
  have hS : va_S (rc_A sh s.heap.size) s.heap s.heap [] := va_S.rf
  have hl := lv_entry ([.ref z.1, .int u1, .int u2]) (n := 3) (Nat.le_of_ble_eq_true rfl)
  rw [lg_entry_eq]
  generalize (lg_sl ([.ref z.1, .int u1, .int u2]) ++ List.replicate (3 - (lg_sl ([.ref z.1, .int u1, .int u2])).length) Slot.unset).toArray = ls at hl ⊢
  have hl : lv_has ls 3 [(0, .ref z.1), (1, .int u1), (2, .int u2)] := hl
  unfold f_L_pick at hm
  refine lv_aload_n hx hb dL_pick_0 rfl (lv_at hl 0 rfl) ?_
  refine lv_iload_n hx hb dL_pick_1 rfl (lv_at hl 1 rfl) ?_
  obtain ⟨w_1, σ_1, hc_1, hm0⟩ := rc_bd_inv hm
  clear hm
  refine rc_ci hS (va_runS (As := [.ref z.1, .int u1]) (rest := []) ⟨hx, hb, hml, hown, hts⟩ (k_L_cell l hl9 hT z u1 s.heap.size _ _ _ hc_1) (va_cwS 2 hts (rc_gS tw_2_113 tw_2_114 tw_1_0 tw_2_115) rfl rfl rfl (by decide +kernel) ⟨Nat.le_of_ble_eq_true rfl, Nat.le_of_ble_eq_true rfl⟩) (rc_preSL hT hW hK hE hN hXz hS [.ref z.1, .int u1]) rfl rfl hl.1 rfl (lv_room (Nat.le_of_ble_eq_true rfl)) dL_pick_2 ⟨show 0 + 0 ≤ 0 from by omega, show 0 + 0 ≤ 0 from by omega⟩) (fun H locs hW hS => ?_)
  have hm := hm0
  clear hm0 hc_1
  refine lv_iconst (v := 1) hx hb dL_pick_5 (by decide) ?_
  refine lv_iushr (v := ((w_1).toUInt32 >>> (((1 : Int32)).toUInt32 &&& Int32.toUInt32 31)).toInt32) hx hb dL_pick_6 rfl ?_
  refine lv_iload_n hx hb dL_pick_7 rfl (lv_at hl 2 rfl) ?_
  have hz_2 := (rc_nz hm).1
  replace hm := (rc_nz hm).2
  refine lv_irem hx hb dL_pick_8 hz_2 ?_
  exact rc_eiret hx hb hr hlocks hW hS (by omega) (by omega) hm dL_pick_9
def f_L_measure (rf : rc_F) (z : rc_Z) (a0 : Nat) (u1 : Int32) (u2 : Int32) (σ : rc_S) : Option (Int32 × rc_S) :=
  if u1 = 0 then
    rc_bd (f_L_barrelOf rf z a0 u2 (1 : Int32) σ) fun w_6 σ_6 =>
    some (w_6, σ_6)
  else
    if u1 = (1 : Int32) then
      rc_bd (f_L_note rf z a0 u2 σ) fun w_4 σ_4 =>
      some ((if (0 : Int32) < w_4 then w_4 else (0 : Int32)), σ_4)
    else
      if u1 = (2 : Int32) then
        rc_bd (f_L_barrelOf rf z a0 u2 (5 : Int32) σ) fun w_2 σ_2 =>
        some (w_2, σ_2)
      else
        rc_bd (f_L_barrelOf rf z a0 u2 (6 : Int32) σ) fun w_1 σ_1 =>
        some (w_1, σ_1)
set_option maxHeartbeats 8000000 in
set_option maxRecDepth 100000 in
theorem k_L_measure (l : Launch) (hl9 : l.stackTraces = false) {Y : rc_Y} {sh : Nat → Nat} {rf : rc_F} (hT : rc_T Y sh rf) (z : rc_Z) (a0 : Nat) (u1 : Int32) (u2 : Int32) (h0 : sh a0 = 9) (sz : Nat) (σ σ' : rc_S) (r : Int32) (hm : f_L_measure rf z a0 u1 u2 σ = some (r, σ')) : Met l yL_measure (Cond.code yL_measure cL_measure 3 (some .int) :: rc_big) ({ frames := 10, cells := 2, slots := 12, locals := 167 } : Room) (rc_PL Y sh rf σ sz z [.ref a0, .int u1, .int u2]) (va_Qi (fun (r' : Int32) (_ : Unit) => r' = r) (fun _ t => rc_W Y sh rf σ' t.heap) (rc_A sh sz)) 2 12 (rc_A sh sz) := by
  refine Met.ofW (cc := cL_measure) (maxL := 3) (ret := (some .int)) (by decide +kernel) rfl ?_
  intro p e s m args below meth c s₁ B hml hv
  obtain ⟨rfl, hsz, ⟨hW, hK, hE⟩, hN, hXz⟩ := hv
  have hx := B.exec
  have hb := B.bytes
  have hr := B.returns
  have hts : ∀ w ∈ rc_big, w.before _ s = true := fun w h => atoms_spec (ws := Cond.code yL_measure cL_measure 3 (some .int) :: rc_big) B.pre w (List.mem_cons_of_mem _ h)
  have hown : s.vm.findClass RL = some m.cls := findClass_of_methodNamed B.named
  have hlocks := B.notSynchronized
  clear B
  subst hsz
  have hS : va_S (rc_A sh s.heap.size) s.heap s.heap [] := va_S.rf
  have hl := lv_entry ([.ref a0, .int u1, .int u2]) (n := 3) (Nat.le_of_ble_eq_true rfl)
  rw [lg_entry_eq]
  generalize (lg_sl ([.ref a0, .int u1, .int u2]) ++ List.replicate (3 - (lg_sl ([.ref a0, .int u1, .int u2])).length) Slot.unset).toArray = ls at hl ⊢
  have hl : lv_has ls 3 [(0, .ref a0), (1, .int u1), (2, .int u2)] := hl
  unfold f_L_measure at hm
  refine lv_iload_n hx hb dL_measure_0 rfl (lv_at hl 1 rfl) ?_
  refine lv_if_ne (tgt := 13) hx hb dL_measure_1 (by decide) (fun c_7 => ?_) (fun c_7 => ?_)
  · replace hm := rc_f hm c_7
    refine lv_iload_n hx hb dL_measure_13 rfl (lv_at hl 1 rfl) ?_
    refine lv_iconst (v := 1) hx hb dL_measure_14 (by decide) ?_
    refine lv_icmp_ne (tgt := 30) hx hb dL_measure_15 (by decide) (fun c_5 => ?_) (fun c_5 => ?_)
    · replace hm := rc_f hm c_5
      refine lv_iload_n hx hb dL_measure_30 rfl (lv_at hl 1 rfl) ?_
      refine lv_iconst (v := 2) hx hb dL_measure_31 (by decide) ?_
      refine lv_icmp_ne (tgt := 44) hx hb dL_measure_32 (by decide) (fun c_3 => ?_) (fun c_3 => ?_)
      · replace hm := rc_f hm c_3
        refine lv_aload_n hx hb dL_measure_44 rfl (lv_at hl 0 rfl) ?_
        refine lv_iload_n hx hb dL_measure_45 rfl (lv_at hl 2 rfl) ?_
        refine lv_bipush (v := 6) hx hb dL_measure_46 (by decide) ?_
        obtain ⟨w_1, σ_1, hc_1, hm0⟩ := rc_bd_inv hm
        clear hm
        refine rc_ci hS (vx_runSW (As := [.ref a0, .int u2, .int (6 : Int32)]) (rest := []) ⟨hx, hb, hml, hown, hts⟩ (k_L_barrelOf l hl9 hT z a0 u2 (6 : Int32) h0 s.heap.size _ _ _ hc_1) (vx_cwSW 3 hts (rc_gS tw_6_45 tw_6_46 tw_1_0 tw_6_47) rfl rfl rfl (by decide +kernel) ⟨Nat.le_of_ble_eq_true rfl, Nat.le_of_ble_eq_true rfl⟩) (rc_preSL hT hW hK hE hN hXz hS [.ref a0, .int u2, .int (6 : Int32)]) rfl rfl hl.1 rfl (lv_room (Nat.le_of_ble_eq_true rfl)) dL_measure_48 ⟨show 0 + 2 ≤ 2 from by omega, show 0 + 12 ≤ 12 from by omega⟩) (fun H locs hW hS => ?_)
        have hm := hm0
        clear hm0 hc_1
        exact rc_eiret hx hb hr hlocks hW hS (by omega) (by omega) hm dL_measure_51
      · replace hm := rc_t hm c_3
        refine lv_aload_n hx hb dL_measure_35 rfl (lv_at hl 0 rfl) ?_
        refine lv_iload_n hx hb dL_measure_36 rfl (lv_at hl 2 rfl) ?_
        refine lv_iconst (v := 5) hx hb dL_measure_37 (by decide) ?_
        obtain ⟨w_2, σ_2, hc_2, hm0⟩ := rc_bd_inv hm
        clear hm
        refine rc_ci hS (vx_runSW (As := [.ref a0, .int u2, .int (5 : Int32)]) (rest := []) ⟨hx, hb, hml, hown, hts⟩ (k_L_barrelOf l hl9 hT z a0 u2 (5 : Int32) h0 s.heap.size _ _ _ hc_2) (vx_cwSW 3 hts (rc_gS tw_6_45 tw_6_46 tw_1_0 tw_6_47) rfl rfl rfl (by decide +kernel) ⟨Nat.le_of_ble_eq_true rfl, Nat.le_of_ble_eq_true rfl⟩) (rc_preSL hT hW hK hE hN hXz hS [.ref a0, .int u2, .int (5 : Int32)]) rfl rfl hl.1 rfl (lv_room (Nat.le_of_ble_eq_true rfl)) dL_measure_38 ⟨show 0 + 2 ≤ 2 from by omega, show 0 + 12 ≤ 12 from by omega⟩) (fun H locs hW hS => ?_)
        have hm := hm0
        clear hm0 hc_2
        refine lv_goto (tgt := 51) hx hb dL_measure_41 (by decide) ?_
        exact rc_eiret hx hb hr hlocks hW hS (by omega) (by omega) hm dL_measure_51
    · replace hm := rc_t hm c_5
      refine lv_iconst (v := 0) hx hb dL_measure_18 (by decide) ?_
      refine lv_aload_n hx hb dL_measure_19 rfl (lv_at hl 0 rfl) ?_
      refine lv_iload_n hx hb dL_measure_20 rfl (lv_at hl 2 rfl) ?_
      obtain ⟨w_4, σ_4, hc_4, hm0⟩ := rc_bd_inv hm
      clear hm
      refine rc_ci hS (vx_runSW (As := [.ref a0, .int u2]) (rest := [.int (0 : Int32)]) ⟨hx, hb, hml, hown, hts⟩ (k_L_note l hl9 hT z a0 u2 h0 s.heap.size _ _ _ hc_4) (vx_cwSW 2 hts (rc_gS tw_2_117 tw_2_118 tw_1_0 tw_2_119) rfl rfl rfl (by decide +kernel) ⟨Nat.le_of_ble_eq_true rfl, Nat.le_of_ble_eq_true rfl⟩) (rc_preSL hT hW hK hE hN hXz hS [.ref a0, .int u2]) rfl rfl hl.1 rfl (lv_room (Nat.le_of_ble_eq_true rfl)) dL_measure_21 ⟨show 0 + 2 ≤ 2 from by omega, show 0 + 12 ≤ 12 from by omega⟩) (fun H locs hW hS => ?_)
      have hm := hm0
      clear hm0 hc_4
      refine va_mmax hx hb (hml.trans hl.1.symm) hown (hts _ tw_6_221) (hts _ tw_3_234) (hts _ tw_1_22) (hts _ tw_3_235) (Nat.le_of_ble_eq_true rfl) (Nat.le_of_ble_eq_true rfl) (show 0 + 2 ≤ 2 from by omega) (show 0 + 12 ≤ 12 from by omega) dL_measure_24 ?_
      refine lv_goto (tgt := 51) hx hb dL_measure_27 (by decide) ?_
      exact rc_eiret hx hb hr hlocks hW hS (by omega) (by omega) hm dL_measure_51
  · replace hm := rc_t hm c_7
    refine lv_aload_n hx hb dL_measure_4 rfl (lv_at hl 0 rfl) ?_
    refine lv_iload_n hx hb dL_measure_5 rfl (lv_at hl 2 rfl) ?_
    refine lv_iconst (v := 1) hx hb dL_measure_6 (by decide) ?_
    obtain ⟨w_6, σ_6, hc_6, hm0⟩ := rc_bd_inv hm
    clear hm
    refine rc_ci hS (vx_runSW (As := [.ref a0, .int u2, .int (1 : Int32)]) (rest := []) ⟨hx, hb, hml, hown, hts⟩ (k_L_barrelOf l hl9 hT z a0 u2 (1 : Int32) h0 s.heap.size _ _ _ hc_6) (vx_cwSW 3 hts (rc_gS tw_6_45 tw_6_46 tw_1_0 tw_6_47) rfl rfl rfl (by decide +kernel) ⟨Nat.le_of_ble_eq_true rfl, Nat.le_of_ble_eq_true rfl⟩) (rc_preSL hT hW hK hE hN hXz hS [.ref a0, .int u2, .int (1 : Int32)]) rfl rfl hl.1 rfl (lv_room (Nat.le_of_ble_eq_true rfl)) dL_measure_7 ⟨show 0 + 2 ≤ 2 from by omega, show 0 + 12 ≤ 12 from by omega⟩) (fun H locs hW hS => ?_)
    have hm := hm0
    clear hm0 hc_6
    refine lv_goto (tgt := 51) hx hb dL_measure_10 (by decide) ?_
    exact rc_eiret hx hb hr hlocks hW hS (by omega) (by omega) hm dL_measure_51
