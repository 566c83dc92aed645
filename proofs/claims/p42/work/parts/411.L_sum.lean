def f_L_sum_4 (rf : rc_F) (z : rc_Z) (r0 : Nat) (K : Int64 → Int32 → rc_S → Option (Int64 × rc_S)) : Nat → Int64 → Int32 → rc_S → Option (Int64 × rc_S)
  | 0, _, _, _ => none
  | n_4 + 1, v1, v3, σ =>
    if (10 : Int32) ≤ v3 then
      K v1 v3 σ
    else
      rc_bd (f_L_account rf z r0 v3 σ) fun w_1 σ_1 =>
      rc_lt (((31 : Int64) * v1) + w_1.toInt64) fun v1_2 =>
      rc_lt (v3 + 1) fun v3_3 =>
      f_L_sum_4 rf z r0 K n_4 v1_2 v3_3 σ_1
def f_L_sum_31 (rf : rc_F) (z : rc_Z) (r0 : Nat) (K : Int64 → Int32 → rc_S → Option (Int64 × rc_S)) : Nat → Int64 → Int32 → rc_S → Option (Int64 × rc_S)
  | 0, _, _, _ => none
  | n_31 + 1, v1, v3, σ =>
    if (4 : Int32) ≤ v3 then
      K v1 v3 σ
    else
      rc_bd (f_L_roofOf rf z r0 v3 (0 : Int32) σ) fun w_8 σ_8 =>
      rc_lt (((31 : Int64) * v1) + w_8.toInt64) fun v1_9 =>
      rc_lt (v3 + 1) fun v3_10 =>
      f_L_sum_31 rf z r0 K n_31 v1_9 v3_10 σ_8
def f_L_sum_70 (rf : rc_F) (z : rc_Z) (r0 : Nat) (v3 : Int32) (K : Int64 → Int32 → rc_S → Option (Int64 × rc_S)) : Nat → Int64 → Int32 → rc_S → Option (Int64 × rc_S)
  | 0, _, _, _ => none
  | n_70 + 1, v1, v4, σ =>
    if (7 : Int32) ≤ v4 then
      K v1 v4 σ
    else
      rc_bd (f_L_barrelOf rf z r0 v3 v4 σ) fun w_16 σ_16 =>
      rc_lt (((31 : Int64) * v1) + w_16.toInt64) fun v1_17 =>
      rc_lt (v4 + 1) fun v4_18 =>
      f_L_sum_70 rf z r0 v3 K n_70 v1_17 v4_18 σ_16
def f_L_sum_58 (rf : rc_F) (z : rc_Z) (r0 : Nat) (K : Int64 → Int32 → rc_S → Option (Int64 × rc_S)) : Nat → Int64 → Int32 → rc_S → Option (Int64 × rc_S)
  | 0, _, _, _ => none
  | n_58 + 1, v1, v3, σ =>
    rc_bd (f_L_account rf z r0 (0 : Int32) σ) fun w_15 σ_15 =>
    if w_15 ≤ v3 then
      K v1 v3 σ_15
    else
      f_L_sum_70 rf z r0 v3 (fun v1_20 v4_21 σ_22 =>
        rc_lt (v3 + 1) fun v3_23 =>
        f_L_sum_58 rf z r0 K n_58 v1_20 v3_23 σ_22
      ) 8 v1 (0 : Int32) σ_15
def f_L_sum_118 (rf : rc_F) (z : rc_Z) (r0 : Nat) (K : Int64 → Int32 → rc_S → Option (Int64 × rc_S)) : Nat → Int64 → Int32 → rc_S → Option (Int64 × rc_S)
  | 0, _, _, _ => none
  | n_118 + 1, v1, v3, σ =>
    rc_bd (f_L_account rf z r0 (3 : Int32) σ) fun w_30 σ_30 =>
    if (((3 : Int32) * w_30) - (1 : Int32)) ≤ v3 then
      K v1 v3 σ_30
    else
      rc_bd (f_L_character rf z r0 v3 σ_30) fun w_31 σ_31 =>
      rc_lt (((31 : Int64) * v1) + w_31.toInt64) fun v1_32 =>
      rc_lt (v3 + 1) fun v3_33 =>
      f_L_sum_118 rf z r0 K n_118 v1_32 v3_33 σ_31
def f_L_sum (rf : rc_F) (z : rc_Z) (a0 : Nat) (σ : rc_S) : Option (Int64 × rc_S) :=
  f_L_sum_4 rf z a0 (fun v1_5 v3_6 σ_7 =>
    f_L_sum_31 rf z a0 (fun v1_12 v3_13 σ_14 =>
      f_L_sum_58 rf z a0 (fun v1_25 v3_26 σ_27 =>
        rc_bd (f_X8_panel rf a0 σ_27) fun w_28 σ_28 =>
        rc_lt (((31 : Int64) * v1_25) + w_28.toInt64) fun v1_29 =>
        f_L_sum_118 rf z a0 (fun v1_35 v3_36 σ_37 =>
          some (v1_35, σ_37)
        ) 12 v1_29 (0 : Int32) σ_28
      ) 9 v1_12 (0 : Int32) σ_14
    ) 5 v1_5 (0 : Int32) σ_7
  ) 11 (0 : Int64) (0 : Int32) σ
set_option maxHeartbeats 8000000 in
set_option maxRecDepth 100000 in
theorem k_L_sum (l : Launch) (hl9 : l.stackTraces = false) {Y : rc_Y} {sh : Nat → Nat} {rf : rc_F} (hT : rc_T Y sh rf) (z : rc_Z) (a0 : Nat) (h0 : sh a0 = 9) (sz : Nat) (σ σ' : rc_S) (r : Int64) (hm : f_L_sum rf z a0 σ = some (r, σ')) : Met l yL_sum (Cond.code yL_sum cL_sum 5 (some .long) :: rc_big) ({ frames := 9, cells := 193, slots := 1158, locals := 148 } : Room) (rc_PL Y sh rf σ sz z [.ref a0]) (va_Ql (fun (r' : Int64) (_ : Unit) => r' = r) (fun _ t => rc_W Y sh rf σ' t.heap) (rc_A sh sz)) 193 1158 (rc_A sh sz) := by
  refine Met.ofW (cc := cL_sum) (maxL := 5) (ret := (some .long)) (by decide +kernel) rfl ?_
  intro p e s m args below meth c s₁ B hml hv
  obtain ⟨rfl, hsz, ⟨hW, hK, hE⟩, hN, hXz⟩ := hv
  have hx := B.exec
  have hb := B.bytes
  have hr := B.returns
  have hts : ∀ w ∈ rc_big, w.before _ s = true := fun w h => atoms_spec (ws := Cond.code yL_sum cL_sum 5 (some .long) :: rc_big) B.pre w (List.mem_cons_of_mem _ h)
  have hown : s.vm.findClass RL = some m.cls := findClass_of_methodNamed B.named
  have hlocks := B.notSynchronized
  clear B
  subst hsz
  have hS : va_S (rc_A sh s.heap.size) s.heap s.heap [] := va_S.rf
  have hl := lv_entry ([.ref a0]) (n := 5) (Nat.le_of_ble_eq_true rfl)
  rw [lg_entry_eq]
  generalize (lg_sl ([.ref a0]) ++ List.replicate (5 - (lg_sl ([.ref a0])).length) Slot.unset).toArray = ls at hl ⊢
  have hl : lv_has ls 5 [(0, .ref a0)] := hl
  have lp_4 : ∀ (r0 : Nat) (hr0 : sh r0 = 9) (C0 S0 : Nat) (hC0 : C0 ≤ 0) (hS0 : S0 ≤ 0) (K : Int64 → Int32 → rc_S → Option (Int64 × rc_S)) (hKK : ∀ (v1 : Int64) (v3 : Int32) (σ : rc_S) (H : Heap) (locs : List Loc) (ls : Array Slot), K v1 v3 σ = some (r, σ') → rc_W Y sh rf σ H → va_S (rc_A sh s.heap.size) s.heap H locs → lv_has ls 5 [(0, .ref r0), (1, .long v1)] → W p l e (headSpec (Cond.code yL_sum cL_sum 5 (some .long) :: rc_big) ({ frames := 9, cells := 193, slots := 1158, locals := 148 } : Room)).room s m (([.ref a0] : List Value).toArray) below meth c H locs (C0 + 11) (S0 + 66) (MQ below (va_Ql (fun (r' : Int64) (_ : Unit) => r' = r) (fun _ t => rc_W Y sh rf σ' t.heap) (rc_A sh s.heap.size)) ([.ref a0] : List Value).toArray s 193 1158 (rc_A sh s.heap.size)) (F0 m 29 ls [])) (n : Nat) (hn : n ≤ 11) (v1 : Int64) (v3 : Int32) (σ : rc_S) (H : Heap) (locs : List Loc) (ls : Array Slot), f_L_sum_4 rf z r0 K n v1 v3 σ = some (r, σ') → rc_W Y sh rf σ H → va_S (rc_A sh s.heap.size) s.heap H locs → lv_has ls 5 [(0, .ref r0), (1, .long v1), (3, .int v3)] → W p l e (headSpec (Cond.code yL_sum cL_sum 5 (some .long) :: rc_big) ({ frames := 9, cells := 193, slots := 1158, locals := 148 } : Room)).room s m (([.ref a0] : List Value).toArray) below meth c H locs (C0 + (11 - n) * 1) (S0 + (11 - n) * 6) (MQ below (va_Ql (fun (r' : Int64) (_ : Unit) => r' = r) (fun _ t => rc_W Y sh rf σ' t.heap) (rc_A sh s.heap.size)) ([.ref a0] : List Value).toArray s 193 1158 (rc_A sh s.heap.size)) (F0 m 4 ls []) := by
    intro r0 hr0 C0 S0 hC0 hS0 K hKK n
    induction n with
    | zero =>
      intro hn v1 v3 σ H locs ls hm
      rw [f_L_sum_4] at hm
      cases hm
    | succ n_4 ih =>
      intro hn v1 v3 σ H locs ls hm hW hS hl
      rw [f_L_sum_4] at hm
      refine lv_iload_n hx hb dL_sum_4 rfl (lv_at hl 2 rfl) ?_
      refine lv_bipush (v := 10) hx hb dL_sum_5 (by decide) ?_
      refine lv_icmp_ge (tgt := 29) hx hb dL_sum_7 (by decide) (fun c_4 => ?_) (fun c_4 => ?_)
      · replace hm := rc_t hm c_4
        refine W.widen (k := C0 + 11) (n := S0 + 66) (by omega) (by omega) ?_
        exact hKK v1 v3 σ _ _ _ hm hW hS (lv_sub hl [0, 1] rfl)
      · replace hm := rc_f hm c_4
        refine lv_ldc2 hx hb hown (hts _ tw_6_28) dL_sum_10 ?_
        refine lv_lload_n hx hb dL_sum_13 rfl (lv_at hl 1 rfl) ?_
        refine lv_lmul hx hb dL_sum_14 ?_
        refine lv_aload_n hx hb dL_sum_15 rfl (lv_at hl 0 rfl) ?_
        refine lv_iload_n hx hb dL_sum_16 rfl (lv_at hl 2 rfl) ?_
        obtain ⟨w_1, σ_1, hc_1, hm0⟩ := rc_bd_inv hm
        clear hm
        refine rc_ci hS (vx_runSW (As := [.ref r0, .int v3]) (rest := [.long ((31 : Int64) * v1)]) ⟨hx, hb, hml, hown, hts⟩ (k_L_account l hl9 hT z r0 v3 hr0 H.size _ _ _ hc_1) (vx_cwSW 2 hts (rc_gS tw_3_118 tw_3_119 tw_1_0 tw_3_120) rfl rfl rfl (by decide +kernel) ⟨Nat.le_of_ble_eq_true rfl, Nat.le_of_ble_eq_true rfl⟩) (rc_preSL hT hW hK hE hN hXz hS [.ref r0, .int v3]) rfl rfl hl.1 rfl (lv_room (Nat.le_of_ble_eq_true rfl)) dL_sum_17 ⟨show C0 + (11 - (n_4 + 1)) * 1 + 1 ≤ 193 from by omega, show S0 + (11 - (n_4 + 1)) * 6 + 6 ≤ 1158 from by omega⟩) (fun H locs hW hS => ?_)
        have hm := hm0
        clear hm0 hc_1
        refine lv_i2l hx hb dL_sum_20 rfl ?_
        refine lv_ladd hx hb dL_sum_21 ?_
        refine lv_topl (fun v1_2 ev => ?_)
        replace hm := rc_lt_at hm ev
        clear ev
        refine lv_lstore_n (lv' := [(1, .long v1_2), (0, .ref r0), (3, .int v3)]) hx hb dL_sum_22 rfl hl (by decide) rfl (fun ls hl => ?_)
        obtain ⟨v3_3, ev⟩ : ∃ y : Int32, y = (v3 + 1) := ⟨_, rfl⟩
        replace hm := rc_lt_at hm ev
        refine lv_iinc (v := v3_3) (lv' := [(3, .int v3_3), (1, .long v1_2), (0, .ref r0)]) hx hb dL_sum_23 hl (k := 2) rfl (by rw [ev]; rfl) (by decide) rfl (fun ls hl => ?_)
        clear ev
        refine lv_goto (tgt := 4) hx hb dL_sum_26 (by decide) ?_
        refine W.widen (k := C0 + (11 - n_4) * 1) (n := S0 + (11 - n_4) * 6) (by omega) (by omega) ?_
        exact ih (by omega) v1_2 v3_3 σ_1 _ _ _ hm hW hS (lv_sub hl [2, 1, 0] rfl)
  have lp_31 : ∀ (r0 : Nat) (hr0 : sh r0 = 9) (C0 S0 : Nat) (hC0 : C0 ≤ 11) (hS0 : S0 ≤ 66) (K : Int64 → Int32 → rc_S → Option (Int64 × rc_S)) (hKK : ∀ (v1 : Int64) (v3 : Int32) (σ : rc_S) (H : Heap) (locs : List Loc) (ls : Array Slot), K v1 v3 σ = some (r, σ') → rc_W Y sh rf σ H → va_S (rc_A sh s.heap.size) s.heap H locs → lv_has ls 5 [(0, .ref r0), (1, .long v1)] → W p l e (headSpec (Cond.code yL_sum cL_sum 5 (some .long) :: rc_big) ({ frames := 9, cells := 193, slots := 1158, locals := 148 } : Room)).room s m (([.ref a0] : List Value).toArray) below meth c H locs (C0 + 5) (S0 + 30) (MQ below (va_Ql (fun (r' : Int64) (_ : Unit) => r' = r) (fun _ t => rc_W Y sh rf σ' t.heap) (rc_A sh s.heap.size)) ([.ref a0] : List Value).toArray s 193 1158 (rc_A sh s.heap.size)) (F0 m 56 ls [])) (n : Nat) (hn : n ≤ 5) (v1 : Int64) (v3 : Int32) (σ : rc_S) (H : Heap) (locs : List Loc) (ls : Array Slot), f_L_sum_31 rf z r0 K n v1 v3 σ = some (r, σ') → rc_W Y sh rf σ H → va_S (rc_A sh s.heap.size) s.heap H locs → lv_has ls 5 [(0, .ref r0), (1, .long v1), (3, .int v3)] → W p l e (headSpec (Cond.code yL_sum cL_sum 5 (some .long) :: rc_big) ({ frames := 9, cells := 193, slots := 1158, locals := 148 } : Room)).room s m (([.ref a0] : List Value).toArray) below meth c H locs (C0 + (5 - n) * 1) (S0 + (5 - n) * 6) (MQ below (va_Ql (fun (r' : Int64) (_ : Unit) => r' = r) (fun _ t => rc_W Y sh rf σ' t.heap) (rc_A sh s.heap.size)) ([.ref a0] : List Value).toArray s 193 1158 (rc_A sh s.heap.size)) (F0 m 31 ls []) := by
    intro r0 hr0 C0 S0 hC0 hS0 K hKK n
    induction n with
    | zero =>
      intro hn v1 v3 σ H locs ls hm
      rw [f_L_sum_31] at hm
      cases hm
    | succ n_31 ih =>
      intro hn v1 v3 σ H locs ls hm hW hS hl
      rw [f_L_sum_31] at hm
      refine lv_iload_n hx hb dL_sum_31 rfl (lv_at hl 2 rfl) ?_
      refine lv_iconst (v := 4) hx hb dL_sum_32 (by decide) ?_
      refine lv_icmp_ge (tgt := 56) hx hb dL_sum_33 (by decide) (fun c_11 => ?_) (fun c_11 => ?_)
      · replace hm := rc_t hm c_11
        refine W.widen (k := C0 + 5) (n := S0 + 30) (by omega) (by omega) ?_
        exact hKK v1 v3 σ _ _ _ hm hW hS (lv_sub hl [0, 1] rfl)
      · replace hm := rc_f hm c_11
        refine lv_ldc2 hx hb hown (hts _ tw_6_28) dL_sum_36 ?_
        refine lv_lload_n hx hb dL_sum_39 rfl (lv_at hl 1 rfl) ?_
        refine lv_lmul hx hb dL_sum_40 ?_
        refine lv_aload_n hx hb dL_sum_41 rfl (lv_at hl 0 rfl) ?_
        refine lv_iload_n hx hb dL_sum_42 rfl (lv_at hl 2 rfl) ?_
        refine lv_iconst (v := 0) hx hb dL_sum_43 (by decide) ?_
        obtain ⟨w_8, σ_8, hc_8, hm0⟩ := rc_bd_inv hm
        clear hm
        refine rc_ci hS (vx_runSW (As := [.ref r0, .int v3, .int (0 : Int32)]) (rest := [.long ((31 : Int64) * v1)]) ⟨hx, hb, hml, hown, hts⟩ (k_L_roofOf l hl9 hT z r0 v3 (0 : Int32) hr0 H.size _ _ _ hc_8) (vx_cwSW 3 hts (rc_gS tw_6_29 tw_6_30 tw_1_0 tw_6_31) rfl rfl rfl (by decide +kernel) ⟨Nat.le_of_ble_eq_true rfl, Nat.le_of_ble_eq_true rfl⟩) (rc_preSL hT hW hK hE hN hXz hS [.ref r0, .int v3, .int (0 : Int32)]) rfl rfl hl.1 rfl (lv_room (Nat.le_of_ble_eq_true rfl)) dL_sum_44 ⟨show C0 + (5 - (n_31 + 1)) * 1 + 1 ≤ 193 from by omega, show S0 + (5 - (n_31 + 1)) * 6 + 6 ≤ 1158 from by omega⟩) (fun H locs hW hS => ?_)
        have hm := hm0
        clear hm0 hc_8
        refine lv_i2l hx hb dL_sum_47 rfl ?_
        refine lv_ladd hx hb dL_sum_48 ?_
        refine lv_topl (fun v1_9 ev => ?_)
        replace hm := rc_lt_at hm ev
        clear ev
        refine lv_lstore_n (lv' := [(1, .long v1_9), (0, .ref r0), (3, .int v3)]) hx hb dL_sum_49 rfl hl (by decide) rfl (fun ls hl => ?_)
        obtain ⟨v3_10, ev⟩ : ∃ y : Int32, y = (v3 + 1) := ⟨_, rfl⟩
        replace hm := rc_lt_at hm ev
        refine lv_iinc (v := v3_10) (lv' := [(3, .int v3_10), (1, .long v1_9), (0, .ref r0)]) hx hb dL_sum_50 hl (k := 2) rfl (by rw [ev]; rfl) (by decide) rfl (fun ls hl => ?_)
        clear ev
        refine lv_goto (tgt := 31) hx hb dL_sum_53 (by decide) ?_
        refine W.widen (k := C0 + (5 - n_31) * 1) (n := S0 + (5 - n_31) * 6) (by omega) (by omega) ?_
        exact ih (by omega) v1_9 v3_10 σ_8 _ _ _ hm hW hS (lv_sub hl [2, 1, 0] rfl)
  have lp_70 : ∀ (r0 : Nat) (v3 : Int32) (hr0 : sh r0 = 9) (C0 S0 : Nat) (hC0 : C0 ≤ 153) (hS0 : S0 ≤ 918) (K : Int64 → Int32 → rc_S → Option (Int64 × rc_S)) (hKK : ∀ (v1 : Int64) (v4 : Int32) (σ : rc_S) (H : Heap) (locs : List Loc) (ls : Array Slot), K v1 v4 σ = some (r, σ') → rc_W Y sh rf σ H → va_S (rc_A sh s.heap.size) s.heap H locs → lv_has ls 5 [(0, .ref r0), (1, .long v1), (3, .int v3)] → W p l e (headSpec (Cond.code yL_sum cL_sum 5 (some .long) :: rc_big) ({ frames := 9, cells := 193, slots := 1158, locals := 148 } : Room)).room s m (([.ref a0] : List Value).toArray) below meth c H locs (C0 + 16) (S0 + 96) (MQ below (va_Ql (fun (r' : Int64) (_ : Unit) => r' = r) (fun _ t => rc_W Y sh rf σ' t.heap) (rc_A sh s.heap.size)) ([.ref a0] : List Value).toArray s 193 1158 (rc_A sh s.heap.size)) (F0 m 98 ls [])) (n : Nat) (hn : n ≤ 8) (v1 : Int64) (v4 : Int32) (σ : rc_S) (H : Heap) (locs : List Loc) (ls : Array Slot), f_L_sum_70 rf z r0 v3 K n v1 v4 σ = some (r, σ') → rc_W Y sh rf σ H → va_S (rc_A sh s.heap.size) s.heap H locs → lv_has ls 5 [(0, .ref r0), (1, .long v1), (3, .int v3), (4, .int v4)] → W p l e (headSpec (Cond.code yL_sum cL_sum 5 (some .long) :: rc_big) ({ frames := 9, cells := 193, slots := 1158, locals := 148 } : Room)).room s m (([.ref a0] : List Value).toArray) below meth c H locs (C0 + (8 - n) * 2) (S0 + (8 - n) * 12) (MQ below (va_Ql (fun (r' : Int64) (_ : Unit) => r' = r) (fun _ t => rc_W Y sh rf σ' t.heap) (rc_A sh s.heap.size)) ([.ref a0] : List Value).toArray s 193 1158 (rc_A sh s.heap.size)) (F0 m 70 ls []) := by
    intro r0 v3 hr0 C0 S0 hC0 hS0 K hKK n
    induction n with
    | zero =>
      intro hn v1 v4 σ H locs ls hm
      rw [f_L_sum_70] at hm
      cases hm
    | succ n_70 ih =>
      intro hn v1 v4 σ H locs ls hm hW hS hl
      rw [f_L_sum_70] at hm
      refine lv_iload hx hb dL_sum_70 (lv_at hl 3 rfl) ?_
      refine lv_bipush (v := 7) hx hb dL_sum_72 (by decide) ?_
      refine lv_icmp_ge (tgt := 98) hx hb dL_sum_74 (by decide) (fun c_19 => ?_) (fun c_19 => ?_)
      · replace hm := rc_t hm c_19
        refine W.widen (k := C0 + 16) (n := S0 + 96) (by omega) (by omega) ?_
        exact hKK v1 v4 σ _ _ _ hm hW hS (lv_sub hl [0, 1, 2] rfl)
      · replace hm := rc_f hm c_19
        refine lv_ldc2 hx hb hown (hts _ tw_6_28) dL_sum_77 ?_
        refine lv_lload_n hx hb dL_sum_80 rfl (lv_at hl 1 rfl) ?_
        refine lv_lmul hx hb dL_sum_81 ?_
        refine lv_aload_n hx hb dL_sum_82 rfl (lv_at hl 0 rfl) ?_
        refine lv_iload_n hx hb dL_sum_83 rfl (lv_at hl 2 rfl) ?_
        refine lv_iload hx hb dL_sum_84 (lv_at hl 3 rfl) ?_
        obtain ⟨w_16, σ_16, hc_16, hm0⟩ := rc_bd_inv hm
        clear hm
        refine rc_ci hS (vx_runSW (As := [.ref r0, .int v3, .int v4]) (rest := [.long ((31 : Int64) * v1)]) ⟨hx, hb, hml, hown, hts⟩ (k_L_barrelOf l hl9 hT z r0 v3 v4 hr0 H.size _ _ _ hc_16) (vx_cwSW 3 hts (rc_gS tw_6_45 tw_6_46 tw_1_0 tw_6_47) rfl rfl rfl (by decide +kernel) ⟨Nat.le_of_ble_eq_true rfl, Nat.le_of_ble_eq_true rfl⟩) (rc_preSL hT hW hK hE hN hXz hS [.ref r0, .int v3, .int v4]) rfl rfl hl.1 rfl (lv_room (Nat.le_of_ble_eq_true rfl)) dL_sum_86 ⟨show C0 + (8 - (n_70 + 1)) * 2 + 2 ≤ 193 from by omega, show S0 + (8 - (n_70 + 1)) * 12 + 12 ≤ 1158 from by omega⟩) (fun H locs hW hS => ?_)
        have hm := hm0
        clear hm0 hc_16
        refine lv_i2l hx hb dL_sum_89 rfl ?_
        refine lv_ladd hx hb dL_sum_90 ?_
        refine lv_topl (fun v1_17 ev => ?_)
        replace hm := rc_lt_at hm ev
        clear ev
        refine lv_lstore_n (lv' := [(1, .long v1_17), (0, .ref r0), (3, .int v3), (4, .int v4)]) hx hb dL_sum_91 rfl hl (by decide) rfl (fun ls hl => ?_)
        obtain ⟨v4_18, ev⟩ : ∃ y : Int32, y = (v4 + 1) := ⟨_, rfl⟩
        replace hm := rc_lt_at hm ev
        refine lv_iinc (v := v4_18) (lv' := [(4, .int v4_18), (1, .long v1_17), (0, .ref r0), (3, .int v3)]) hx hb dL_sum_92 hl (k := 3) rfl (by rw [ev]; rfl) (by decide) rfl (fun ls hl => ?_)
        clear ev
        refine lv_goto (tgt := 70) hx hb dL_sum_95 (by decide) ?_
        refine W.widen (k := C0 + (8 - n_70) * 2) (n := S0 + (8 - n_70) * 12) (by omega) (by omega) ?_
        exact ih (by omega) v1_17 v4_18 σ_16 _ _ _ hm hW hS (lv_sub hl [2, 1, 3, 0] rfl)
  have lp_58 : ∀ (r0 : Nat) (hr0 : sh r0 = 9) (C0 S0 : Nat) (hC0 : C0 ≤ 16) (hS0 : S0 ≤ 96) (K : Int64 → Int32 → rc_S → Option (Int64 × rc_S)) (hKK : ∀ (v1 : Int64) (v3 : Int32) (σ : rc_S) (H : Heap) (locs : List Loc) (ls : Array Slot), K v1 v3 σ = some (r, σ') → rc_W Y sh rf σ H → va_S (rc_A sh s.heap.size) s.heap H locs → lv_has ls 5 [(0, .ref r0), (1, .long v1)] → W p l e (headSpec (Cond.code yL_sum cL_sum 5 (some .long) :: rc_big) ({ frames := 9, cells := 193, slots := 1158, locals := 148 } : Room)).room s m (([.ref a0] : List Value).toArray) below meth c H locs (C0 + 153) (S0 + 918) (MQ below (va_Ql (fun (r' : Int64) (_ : Unit) => r' = r) (fun _ t => rc_W Y sh rf σ' t.heap) (rc_A sh s.heap.size)) ([.ref a0] : List Value).toArray s 193 1158 (rc_A sh s.heap.size)) (F0 m 104 ls [])) (n : Nat) (hn : n ≤ 9) (v1 : Int64) (v3 : Int32) (σ : rc_S) (H : Heap) (locs : List Loc) (ls : Array Slot), f_L_sum_58 rf z r0 K n v1 v3 σ = some (r, σ') → rc_W Y sh rf σ H → va_S (rc_A sh s.heap.size) s.heap H locs → lv_has ls 5 [(0, .ref r0), (1, .long v1), (3, .int v3)] → W p l e (headSpec (Cond.code yL_sum cL_sum 5 (some .long) :: rc_big) ({ frames := 9, cells := 193, slots := 1158, locals := 148 } : Room)).room s m (([.ref a0] : List Value).toArray) below meth c H locs (C0 + (9 - n) * 17) (S0 + (9 - n) * 102) (MQ below (va_Ql (fun (r' : Int64) (_ : Unit) => r' = r) (fun _ t => rc_W Y sh rf σ' t.heap) (rc_A sh s.heap.size)) ([.ref a0] : List Value).toArray s 193 1158 (rc_A sh s.heap.size)) (F0 m 58 ls []) := by
    intro r0 hr0 C0 S0 hC0 hS0 K hKK n
    induction n with
    | zero =>
      intro hn v1 v3 σ H locs ls hm
      rw [f_L_sum_58] at hm
      cases hm
    | succ n_58 ih =>
      intro hn v1 v3 σ H locs ls hm hW hS hl
      rw [f_L_sum_58] at hm
      refine lv_iload_n hx hb dL_sum_58 rfl (lv_at hl 2 rfl) ?_
      refine lv_aload_n hx hb dL_sum_59 rfl (lv_at hl 0 rfl) ?_
      refine lv_iconst (v := 0) hx hb dL_sum_60 (by decide) ?_
      obtain ⟨w_15, σ_15, hc_15, hm0⟩ := rc_bd_inv hm
      clear hm
      refine rc_ci hS (vx_runSW (As := [.ref r0, .int (0 : Int32)]) (rest := [.int v3]) ⟨hx, hb, hml, hown, hts⟩ (k_L_account l hl9 hT z r0 (0 : Int32) hr0 H.size _ _ _ hc_15) (vx_cwSW 2 hts (rc_gS tw_3_118 tw_3_119 tw_1_0 tw_3_120) rfl rfl rfl (by decide +kernel) ⟨Nat.le_of_ble_eq_true rfl, Nat.le_of_ble_eq_true rfl⟩) (rc_preSL hT hW hK hE hN hXz hS [.ref r0, .int (0 : Int32)]) rfl rfl hl.1 rfl (lv_room (Nat.le_of_ble_eq_true rfl)) dL_sum_61 ⟨show C0 + (9 - (n_58 + 1)) * 17 + 1 ≤ 193 from by omega, show S0 + (9 - (n_58 + 1)) * 102 + 6 ≤ 1158 from by omega⟩) (fun H locs hW hS => ?_)
      have hm := hm0
      clear hm0 hc_15
      refine lv_icmp_ge (tgt := 104) hx hb dL_sum_64 (by decide) (fun c_24 => ?_) (fun c_24 => ?_)
      · replace hm := rc_t hm c_24
        refine W.widen (k := C0 + 153) (n := S0 + 918) (by omega) (by omega) ?_
        exact hKK v1 v3 σ_15 _ _ _ hm hW hS (lv_sub hl [0, 1] rfl)
      · replace hm := rc_f hm c_24
        refine lv_iconst (v := 0) hx hb dL_sum_67 (by decide) ?_
        refine lv_istore (lv' := [(4, .int (0 : Int32)), (0, .ref r0), (1, .long v1), (3, .int v3)]) hx hb dL_sum_68 hl (by decide) rfl (fun ls hl => ?_)
        refine W.widen (k := C0 + (9 - (n_58 + 1)) * 17 + 1 + (8 - 8) * 2) (n := S0 + (9 - (n_58 + 1)) * 102 + 6 + (8 - 8) * 12) (by omega) (by omega) ?_
        refine lp_70 r0 v3 hr0 (C0 + (9 - (n_58 + 1)) * 17 + 1) (S0 + (9 - (n_58 + 1)) * 102 + 6) (by omega) (by omega) _ (fun v1_20 v4_21 σ_22 H locs ls hm hW hS hl => ?_) 8 (Nat.le_refl _) v1 (0 : Int32) σ_15 _ _ _ hm hW hS (lv_sub hl [1, 2, 3, 0] rfl)
        obtain ⟨v3_23, ev⟩ : ∃ y : Int32, y = (v3 + 1) := ⟨_, rfl⟩
        replace hm := rc_lt_at hm ev
        refine lv_iinc (v := v3_23) (lv' := [(3, .int v3_23), (0, .ref r0), (1, .long v1_20)]) hx hb dL_sum_98 hl (k := 2) rfl (by rw [ev]; rfl) (by decide) rfl (fun ls hl => ?_)
        clear ev
        refine lv_goto (tgt := 58) hx hb dL_sum_101 (by decide) ?_
        refine W.widen (k := C0 + (9 - n_58) * 17) (n := S0 + (9 - n_58) * 102) (by omega) (by omega) ?_
        exact ih (by omega) v1_20 v3_23 σ_22 _ _ _ hm hW hS (lv_sub hl [1, 2, 0] rfl)
  have lp_118 : ∀ (r0 : Nat) (hr0 : sh r0 = 9) (C0 S0 : Nat) (hC0 : C0 ≤ 169) (hS0 : S0 ≤ 1014) (K : Int64 → Int32 → rc_S → Option (Int64 × rc_S)) (hKK : ∀ (v1 : Int64) (v3 : Int32) (σ : rc_S) (H : Heap) (locs : List Loc) (ls : Array Slot), K v1 v3 σ = some (r, σ') → rc_W Y sh rf σ H → va_S (rc_A sh s.heap.size) s.heap H locs → lv_has ls 5 [(1, .long v1)] → W p l e (headSpec (Cond.code yL_sum cL_sum 5 (some .long) :: rc_big) ({ frames := 9, cells := 193, slots := 1158, locals := 148 } : Room)).room s m (([.ref a0] : List Value).toArray) below meth c H locs (C0 + 24) (S0 + 144) (MQ below (va_Ql (fun (r' : Int64) (_ : Unit) => r' = r) (fun _ t => rc_W Y sh rf σ' t.heap) (rc_A sh s.heap.size)) ([.ref a0] : List Value).toArray s 193 1158 (rc_A sh s.heap.size)) (F0 m 150 ls [])) (n : Nat) (hn : n ≤ 12) (v1 : Int64) (v3 : Int32) (σ : rc_S) (H : Heap) (locs : List Loc) (ls : Array Slot), f_L_sum_118 rf z r0 K n v1 v3 σ = some (r, σ') → rc_W Y sh rf σ H → va_S (rc_A sh s.heap.size) s.heap H locs → lv_has ls 5 [(0, .ref r0), (1, .long v1), (3, .int v3)] → W p l e (headSpec (Cond.code yL_sum cL_sum 5 (some .long) :: rc_big) ({ frames := 9, cells := 193, slots := 1158, locals := 148 } : Room)).room s m (([.ref a0] : List Value).toArray) below meth c H locs (C0 + (12 - n) * 2) (S0 + (12 - n) * 12) (MQ below (va_Ql (fun (r' : Int64) (_ : Unit) => r' = r) (fun _ t => rc_W Y sh rf σ' t.heap) (rc_A sh s.heap.size)) ([.ref a0] : List Value).toArray s 193 1158 (rc_A sh s.heap.size)) (F0 m 118 ls []) := by
    intro r0 hr0 C0 S0 hC0 hS0 K hKK n
    induction n with
    | zero =>
      intro hn v1 v3 σ H locs ls hm
      rw [f_L_sum_118] at hm
      cases hm
    | succ n_118 ih =>
      intro hn v1 v3 σ H locs ls hm hW hS hl
      rw [f_L_sum_118] at hm
      refine lv_iload_n hx hb dL_sum_118 rfl (lv_at hl 2 rfl) ?_
      refine lv_iconst (v := 3) hx hb dL_sum_119 (by decide) ?_
      refine lv_aload_n hx hb dL_sum_120 rfl (lv_at hl 0 rfl) ?_
      refine lv_iconst (v := 3) hx hb dL_sum_121 (by decide) ?_
      obtain ⟨w_30, σ_30, hc_30, hm0⟩ := rc_bd_inv hm
      clear hm
      refine rc_ci hS (vx_runSW (As := [.ref r0, .int (3 : Int32)]) (rest := [.int (3 : Int32), .int v3]) ⟨hx, hb, hml, hown, hts⟩ (k_L_account l hl9 hT z r0 (3 : Int32) hr0 H.size _ _ _ hc_30) (vx_cwSW 2 hts (rc_gS tw_3_118 tw_3_119 tw_1_0 tw_3_120) rfl rfl rfl (by decide +kernel) ⟨Nat.le_of_ble_eq_true rfl, Nat.le_of_ble_eq_true rfl⟩) (rc_preSL hT hW hK hE hN hXz hS [.ref r0, .int (3 : Int32)]) rfl rfl hl.1 rfl (lv_room (Nat.le_of_ble_eq_true rfl)) dL_sum_122 ⟨show C0 + (12 - (n_118 + 1)) * 2 + 1 ≤ 193 from by omega, show S0 + (12 - (n_118 + 1)) * 12 + 6 ≤ 1158 from by omega⟩) (fun H locs hW hS => ?_)
      have hm := hm0
      clear hm0 hc_30
      refine lv_imul hx hb dL_sum_125 ?_
      refine lv_iconst (v := 1) hx hb dL_sum_126 (by decide) ?_
      refine lv_isub hx hb dL_sum_127 ?_
      refine lv_icmp_ge (tgt := 150) hx hb dL_sum_128 (by decide) (fun c_34 => ?_) (fun c_34 => ?_)
      · replace hm := rc_t hm c_34
        refine W.widen (k := C0 + 24) (n := S0 + 144) (by omega) (by omega) ?_
        exact hKK v1 v3 σ_30 _ _ _ hm hW hS (lv_sub hl [1] rfl)
      · replace hm := rc_f hm c_34
        refine lv_ldc2 hx hb hown (hts _ tw_6_28) dL_sum_131 ?_
        refine lv_lload_n hx hb dL_sum_134 rfl (lv_at hl 1 rfl) ?_
        refine lv_lmul hx hb dL_sum_135 ?_
        refine lv_aload_n hx hb dL_sum_136 rfl (lv_at hl 0 rfl) ?_
        refine lv_iload_n hx hb dL_sum_137 rfl (lv_at hl 2 rfl) ?_
        obtain ⟨w_31, σ_31, hc_31, hm0⟩ := rc_bd_inv hm
        clear hm
        refine rc_ci hS (vx_runSW (As := [.ref r0, .int v3]) (rest := [.long ((31 : Int64) * v1)]) ⟨hx, hb, hml, hown, hts⟩ (k_L_character l hl9 hT z r0 v3 hr0 H.size _ _ _ hc_31) (vx_cwSW 2 hts (rc_gS tw_6_124 tw_6_125 tw_1_0 tw_6_126) rfl rfl rfl (by decide +kernel) ⟨Nat.le_of_ble_eq_true rfl, Nat.le_of_ble_eq_true rfl⟩) (rc_preSL hT hW hK hE hN hXz hS [.ref r0, .int v3]) rfl rfl hl.1 rfl (lv_room (Nat.le_of_ble_eq_true rfl)) dL_sum_138 ⟨show C0 + (12 - (n_118 + 1)) * 2 + 1 + 1 ≤ 193 from by omega, show S0 + (12 - (n_118 + 1)) * 12 + 6 + 6 ≤ 1158 from by omega⟩) (fun H locs hW hS => ?_)
        have hm := hm0
        clear hm0 hc_31
        refine lv_i2l hx hb dL_sum_141 rfl ?_
        refine lv_ladd hx hb dL_sum_142 ?_
        refine lv_topl (fun v1_32 ev => ?_)
        replace hm := rc_lt_at hm ev
        clear ev
        refine lv_lstore_n (lv' := [(1, .long v1_32), (0, .ref r0), (3, .int v3)]) hx hb dL_sum_143 rfl hl (by decide) rfl (fun ls hl => ?_)
        obtain ⟨v3_33, ev⟩ : ∃ y : Int32, y = (v3 + 1) := ⟨_, rfl⟩
        replace hm := rc_lt_at hm ev
        refine lv_iinc (v := v3_33) (lv' := [(3, .int v3_33), (1, .long v1_32), (0, .ref r0)]) hx hb dL_sum_144 hl (k := 2) rfl (by rw [ev]; rfl) (by decide) rfl (fun ls hl => ?_)
        clear ev
        refine lv_goto (tgt := 118) hx hb dL_sum_147 (by decide) ?_
        refine W.widen (k := C0 + (12 - n_118) * 2) (n := S0 + (12 - n_118) * 12) (by omega) (by omega) ?_
        exact ih (by omega) v1_32 v3_33 σ_31 _ _ _ hm hW hS (lv_sub hl [2, 1, 0] rfl)
  unfold f_L_sum at hm
  refine lv_lconst (v := 0) hx hb dL_sum_0 (by decide) ?_
  refine lv_lstore_n (lv' := [(1, .long (0 : Int64)), (0, .ref a0)]) hx hb dL_sum_1 rfl hl (by decide) rfl (fun ls hl => ?_)
  refine lv_iconst (v := 0) hx hb dL_sum_2 (by decide) ?_
  refine lv_istore_n (lv' := [(3, .int (0 : Int32)), (1, .long (0 : Int64)), (0, .ref a0)]) hx hb dL_sum_3 rfl hl (by decide) rfl (fun ls hl => ?_)
  refine W.widen (k := 0 + (11 - 11) * 1) (n := 0 + (11 - 11) * 6) (by omega) (by omega) ?_
  refine lp_4 a0 h0 (0) (0) (by omega) (by omega) _ (fun v1_5 v3_6 σ_7 H locs ls hm hW hS hl => ?_) 11 (Nat.le_refl _) (0 : Int64) (0 : Int32) σ _ _ _ hm hW hS (lv_sub hl [2, 1, 0] rfl)
  refine lv_iconst (v := 0) hx hb dL_sum_29 (by decide) ?_
  refine lv_istore_n (lv' := [(3, .int (0 : Int32)), (0, .ref a0), (1, .long v1_5)]) hx hb dL_sum_30 rfl hl (by decide) rfl (fun ls hl => ?_)
  refine W.widen (k := 0 + 11 + (5 - 5) * 1) (n := 0 + 66 + (5 - 5) * 6) (by omega) (by omega) ?_
  refine lp_31 a0 h0 (0 + 11) (0 + 66) (by omega) (by omega) _ (fun v1_12 v3_13 σ_14 H locs ls hm hW hS hl => ?_) 5 (Nat.le_refl _) v1_5 (0 : Int32) σ_7 _ _ _ hm hW hS (lv_sub hl [1, 2, 0] rfl)
  refine lv_iconst (v := 0) hx hb dL_sum_56 (by decide) ?_
  refine lv_istore_n (lv' := [(3, .int (0 : Int32)), (0, .ref a0), (1, .long v1_12)]) hx hb dL_sum_57 rfl hl (by decide) rfl (fun ls hl => ?_)
  refine W.widen (k := 0 + 11 + 5 + (9 - 9) * 17) (n := 0 + 66 + 30 + (9 - 9) * 102) (by omega) (by omega) ?_
  refine lp_58 a0 h0 (0 + 11 + 5) (0 + 66 + 30) (by omega) (by omega) _ (fun v1_25 v3_26 σ_27 H locs ls hm hW hS hl => ?_) 9 (Nat.le_refl _) v1_12 (0 : Int32) σ_14 _ _ _ hm hW hS (lv_sub hl [1, 2, 0] rfl)
  refine lv_ldc2 hx hb hown (hts _ tw_6_28) dL_sum_104 ?_
  refine lv_lload_n hx hb dL_sum_107 rfl (lv_at hl 1 rfl) ?_
  refine lv_lmul hx hb dL_sum_108 ?_
  refine lv_aload_n hx hb dL_sum_109 rfl (lv_at hl 0 rfl) ?_
  obtain ⟨w_28, σ_28, hc_28, hm0⟩ := rc_bd_inv hm
  clear hm
  refine rc_ci hS (va_runV (As := []) (rest := [.long ((31 : Int64) * v1_25)]) ⟨hx, hb, hml, hown, hts⟩ (k_X8_panel l hT a0 h0 H.size _ _ _ hc_28) (cwV 0 hts (rc_gV tw_6_53 tw_6_54 tw_6_55 tw_1_1 tw_6_56) rfl rfl rfl (by decide +kernel) ⟨Nat.le_of_ble_eq_true rfl, Nat.le_of_ble_eq_true rfl⟩) (rc_preV hT hW hK hE hS h0 (by decide) rfl (q := (RX8, TX8, 9)) rfl []) rfl rfl hl.1 rfl (lv_room (Nat.le_of_ble_eq_true rfl)) dL_sum_110 ⟨show 0 + 11 + 5 + 153 + 0 ≤ 193 from by omega, show 0 + 66 + 30 + 918 + 0 ≤ 1158 from by omega⟩) (fun H locs hW hS => ?_)
  have hm := hm0
  clear hm0 hc_28
  refine lv_i2l hx hb dL_sum_113 rfl ?_
  refine lv_ladd hx hb dL_sum_114 ?_
  refine lv_topl (fun v1_29 ev => ?_)
  replace hm := rc_lt_at hm ev
  clear ev
  refine lv_lstore_n (lv' := [(1, .long v1_29), (0, .ref a0)]) hx hb dL_sum_115 rfl hl (by decide) rfl (fun ls hl => ?_)
  refine lv_iconst (v := 0) hx hb dL_sum_116 (by decide) ?_
  refine lv_istore_n (lv' := [(3, .int (0 : Int32)), (1, .long v1_29), (0, .ref a0)]) hx hb dL_sum_117 rfl hl (by decide) rfl (fun ls hl => ?_)
  refine W.widen (k := 0 + 11 + 5 + 153 + 0 + (12 - 12) * 2) (n := 0 + 66 + 30 + 918 + 0 + (12 - 12) * 12) (by omega) (by omega) ?_
  refine lp_118 a0 h0 (0 + 11 + 5 + 153 + 0) (0 + 66 + 30 + 918 + 0) (by omega) (by omega) _ (fun v1_35 v3_36 σ_37 H locs ls hm hW hS hl => ?_) 12 (Nat.le_refl _) v1_29 (0 : Int32) σ_28 _ _ _ hm hW hS (lv_sub hl [2, 1, 0] rfl)
  refine lv_lload_n hx hb dL_sum_150 rfl (lv_at hl 0 rfl) ?_
  exact rc_elret hx hb hr hlocks hW hS (by omega) (by omega) hm dL_sum_151
