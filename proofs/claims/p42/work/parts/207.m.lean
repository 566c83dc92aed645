def f_X6_read_12 (rf : rc_F) (a0 : Nat) (K : Int32 → rc_S → Option (Int32 × rc_S)) : Nat → Int32 → rc_S → Option (Int32 × rc_S)
  | 0, _, _ => none
  | n + 1, v1, σ =>
    if (60 : Int32) ≤ v1 then
      K v1 σ
    else
      rc_bd (f_X6_readCommand rf a0 σ) fun w_3 σ_3 =>
      if w_3 = 0 then
        K v1 σ_3
      else
        if (σ_3 a0 5) = (σ_3 a0 1) then
          some ((-1 : Int32), σ_3)
        else
          rc_bd (f_X6_readSign rf a0 (59 : Int32) σ_3) fun w_4 σ_4 =>
          if w_4 = 0 then
            some ((σ_4 a0 5), σ_4)
          else
            rc_lt (v1 + 1) fun v1_5 =>
            f_X6_read_12 rf a0 K n v1_5 σ_4
def f_X6_read (rf : rc_F) (a0 : Nat) (σ : rc_S) : Option (Int32 × rc_S) :=
  rc_lt (rc_up σ a0 5 (0 : Int32)) fun σ_1 =>
  rc_lt (rc_up σ_1 a0 4 (0 : Int32)) fun σ_2 =>
  f_X6_read_12 rf a0 (fun v1_10 σ_11 =>
    some ((σ_11 a0 5), σ_11)
  ) rc_fu (0 : Int32) σ_2
def f_X7_pourOver (rf : rc_F) (a0 : Nat) (u1 : Int32) (u2 : Int32) (u3 : Int32) (σ : rc_S) : Option (Int32 × rc_S) :=
  rc_bd (f_X1_hasBarrel rf (rf a0 0) u1 σ) fun w_1 σ_1 =>
  if w_1 = 0 then
    rc_bd (f_X5_because rf (rf a0 1) (3 : Int32) (σ_1 (rf a0 0) 2) σ_1) fun w_2 σ_2 =>
    some (w_2, σ_2)
  else
    rc_bd (f_X1_hasBarrel rf (rf a0 0) u2 σ_1) fun w_3 σ_3 =>
    if w_3 = 0 then
      rc_bd (f_X5_because rf (rf a0 1) (3 : Int32) (σ_3 (rf a0 0) 2) σ_3) fun w_21 σ_21 =>
      some (w_21, σ_21)
    else
      if u1 = u2 then
        rc_bd (f_X5_because rf (rf a0 1) (8 : Int32) u1 σ_3) fun w_19 σ_19 =>
        some (w_19, σ_19)
      else
        rc_bd (f_X8_isOutside rf u3 (1 : Int32) (20 : Int32) σ_3) fun w_4 σ_4 =>
        if w_4 = 0 then
          rc_ck (rc_in u1 8) <|
          rc_ck (rc_in u2 8) <|
          if u3 ≤ (σ_4 (rf (rf (rf a0 0) 1) u1.toNatClampNeg) 1) then
            rc_bd (f_X0_isFreeFor rf (rf (rf (rf a0 0) 1) u2.toNatClampNeg) (σ_4 (rf (rf (rf a0 0) 1) u1.toNatClampNeg) 3) σ_4) fun w_7 σ_7 =>
            if w_7 = 0 then
              rc_bd (f_X5_because rf (rf a0 1) (9 : Int32) (σ_7 (rf (rf (rf a0 0) 1) u2.toNatClampNeg) 3) σ_7) fun w_13 σ_13 =>
              some (w_13, σ_13)
            else
              rc_bd (f_X0_room rf (rf (rf (rf a0 0) 1) u2.toNatClampNeg) σ_7) fun w_8 σ_8 =>
              if u3 ≤ w_8 then
                rc_bd (f_X0_pourIn rf (rf (rf (rf a0 0) 1) u2.toNatClampNeg) (rf (rf (rf a0 0) 1) u1.toNatClampNeg) u3 σ_8) fun _ σ_9 =>
                some ((σ_9 (rf (rf (rf a0 0) 1) u2.toNatClampNeg) 1), σ_9)
              else
                rc_bd (f_X0_room rf (rf (rf (rf a0 0) 1) u2.toNatClampNeg) σ_8) fun w_10 σ_10 =>
                rc_bd (f_X5_because rf (rf a0 1) (7 : Int32) w_10 σ_10) fun w_11 σ_11 =>
                some (w_11, σ_11)
          else
            rc_bd (f_X5_because rf (rf a0 1) (6 : Int32) (σ_4 (rf (rf (rf a0 0) 1) u1.toNatClampNeg) 1) σ_4) fun w_15 σ_15 =>
            some (w_15, σ_15)
        else
          rc_bd (f_X5_because rf (rf a0 1) (1 : Int32) (0 : Int32) σ_4) fun w_17 σ_17 =>
          some (w_17, σ_17)
def f_X8_pour (rf : rc_F) (a0 : Nat) (u1 : Int32) (u2 : Int32) (u3 : Int32) (σ : rc_S) : Option (Nat × Int32 × rc_S) :=
  rc_bd (f_X2_setAside rf (rf a0 5) (rf a0 1) σ) fun _ σ_1 =>
  rc_bd (f_X7_pourOver rf (rf a0 0) u1 u2 u3 σ_1) fun w_2 σ_2 =>
  rc_bx (f_X8_kept rf a0 w_2 σ_2) (0 : Int32) fun w_3 σ_3 =>
  some (0, w_3, σ_3)
def f_X8_carryOut (rf : rc_F) (a0 : Nat) (u1 : Int32) (σ : rc_S) : Option (Int32 × rc_S) :=
  rc_bd (f_X6_numberOf rf (rf a0 6) u1 (0 : Int32) σ) fun w_1 σ_1 =>
  rc_bd (f_X6_numberOf rf (rf a0 6) u1 (1 : Int32) σ_1) fun w_2 σ_2 =>
  rc_ck (rc_in u1 60) <|
  if (σ_2 (rf (rf a0 6) 2) u1.toNatClampNeg) = (98 : Int32) then
    rc_bd (f_X7_placeBarrel rf (rf a0 0) w_1 σ_2) fun w_5 σ_5 =>
    some (w_5, σ_5)
  else
  if (σ_2 (rf (rf a0 6) 2) u1.toNatClampNeg) = (99 : Int32) then
    rc_bd (f_X7_clearRoof rf (rf a0 0) w_1 σ_2) fun w_7 σ_7 =>
    some (w_7, σ_7)
  else
  if (σ_2 (rf (rf a0 6) 2) u1.toNatClampNeg) = (103 : Int32) then
    rc_bd (f_X7_letPanelDrink rf (rf a0 0) w_1 σ_2) fun w_9 σ_9 =>
    some (w_9, σ_9)
  else
  if (σ_2 (rf (rf a0 6) 2) u1.toNatClampNeg) = (104 : Int32) then
    rc_bd (f_X7_adulterate rf (rf a0 0) w_1 w_2 σ_2) fun w_11 σ_11 =>
    some (w_11, σ_11)
  else
  if (σ_2 (rf (rf a0 6) 2) u1.toNatClampNeg) = (108 : Int32) then
    rc_bd (f_X7_letLeave rf (rf a0 0) w_1 σ_2) fun w_13 σ_13 =>
    some (w_13, σ_13)
  else
  if (σ_2 (rf (rf a0 6) 2) u1.toNatClampNeg) = (109 : Int32) then
    rc_bd (f_X7_letCome rf (rf a0 0) w_1 (0 : Int32) σ_2) fun w_15 σ_15 =>
    some (w_15, σ_15)
  else
  if (σ_2 (rf (rf a0 6) 2) u1.toNatClampNeg) = (112 : Int32) then
    rc_bd (f_X6_numberOf rf (rf a0 6) u1 (2 : Int32) σ_2) fun w_17 σ_17 =>
    rc_bd (f_X7_pourOver rf (rf a0 0) w_1 w_2 w_17 σ_17) fun w_18 σ_18 =>
    some (w_18, σ_18)
  else
  if (σ_2 (rf (rf a0 6) 2) u1.toNatClampNeg) = (115 : Int32) then
    rc_bd (f_X7_letStormBy rf (rf a0 0) w_1 w_2 σ_2) fun w_20 σ_20 =>
    some (w_20, σ_20)
  else
  if (σ_2 (rf (rf a0 6) 2) u1.toNatClampNeg) = (116 : Int32) then
    rc_bd (f_X7_letCome rf (rf a0 0) w_1 (1 : Int32) σ_2) fun w_22 σ_22 =>
    some (w_22, σ_22)
  else
  if (σ_2 (rf (rf a0 6) 2) u1.toNatClampNeg) = (120 : Int32) then
    rc_bd (f_X7_removeBarrel rf (rf a0 0) w_1 σ_2) fun w_24 σ_24 =>
    some (w_24, σ_24)
  else
  rc_bd (f_X7_letYearGoBy rf (rf a0 0) σ_2) fun w_25 σ_25 =>
  some (w_25, σ_25)
def f_X8_commands_47 (rf : rc_F) (a0 : Nat) (K : Int32 → rc_S → Option (Nat × Int32 × rc_S)) : Nat → Int32 → rc_S → Option (Nat × Int32 × rc_S)
  | 0, _, _ => none
  | n + 1, v1, σ =>
    if (σ (rf a0 6) 4) ≤ v1 then
      K v1 σ
    else
      rc_bd (f_X8_carryOut rf a0 v1 σ) fun w_5 σ_5 =>
      if w_5 = (-1 : Int32) then
        rc_bd (f_X2_aside rf (rf a0 5) σ_5) fun w_7 σ_7 =>
        rc_bd (f_X1_copy rf (rf a0 1) w_7 σ_7) fun _ σ_8 =>
        rc_lt (rc_up σ_8 (rf a0 2) 2 v1) fun σ_9 =>
        some (1, (0 : Int32), σ_9)
      else
        rc_lt (v1 + 1) fun v1_6 =>
        f_X8_commands_47 rf a0 K n v1_6 σ_5
def f_X8_commands (rf : rc_F) (a0 : Nat) (σ : rc_S) : Option (Nat × Int32 × rc_S) :=
  rc_bd (f_X6_read rf (rf a0 6) σ) fun w_1 σ_1 =>
  rc_lt (rc_up σ_1 a0 7 w_1) fun σ_2 =>
  rc_bd (f_X6_makeEmpty rf (rf a0 6) σ_2) fun _ σ_3 =>
  if (σ_3 a0 7) = (-1 : Int32) then
    rc_bd (f_X2_setAside rf (rf a0 5) (rf a0 1) σ_3) fun _ σ_4 =>
    f_X8_commands_47 rf a0 (fun v1_12 σ_13 =>
      rc_bd (f_X2_keepAside rf (rf a0 5) σ_13) fun _ σ_14 =>
      some (0, (σ_14 (rf a0 6) 4), σ_14)
    ) rc_fu (0 : Int32) σ_4
  else
    some (3, (0 : Int32), σ_3)
set_option maxHeartbeats 4000000 in
set_option maxRecDepth 100000 in
theorem k_X6_read (l : Launch) {Y : rc_Y} {sh : Nat → Nat} {rf : rc_F} (hT : rc_T Y sh rf) (a0 : Nat) (h0 : sh a0 = 7) (sz : Nat) (σ σ' : rc_S) (r : Int32) (hm : f_X6_read rf a0 σ = some (r, σ')) : Met l yX6_read (Cond.code yX6_read cX6_read 2 (some .int) :: rc_big) ({ frames := 5, cells := 0, slots := 0, locals := 113 } : Room) (rc_P Y sh rf σ sz [.ref a0]) (va_Qi (fun (r' : Int32) (_ : Unit) => r' = r) (fun _ t => rc_W Y sh rf σ' t.heap) (rc_A sh sz)) 0 0 (rc_A sh sz) := by
  refine Met.ofW (cc := cX6_read) (maxL := 2) (ret := (some .int)) (by decide +kernel) rfl ?_
  intro p e s m args below meth c s₁ B hml hv
  obtain ⟨rfl, hsz, hW, hK, hE⟩ := hv
  have hx := B.exec
  have hb := B.bytes
  have hr := B.returns
  have hts : ∀ w ∈ rc_big, w.before _ s = true := fun w h => atoms_spec (ws := Cond.code yX6_read cX6_read 2 (some .int) :: rc_big) B.pre w (List.mem_cons_of_mem _ h)
  have hown : s.vm.findClass RX6 = some m.cls := findClass_of_methodNamed B.named
  have hlocks := B.notSynchronized
  clear B
  subst hsz
  have hS : va_S (rc_A sh s.heap.size) s.heap s.heap [] := va_S.rf
  have hl := lv_entry ([.ref a0]) (n := 2) (Nat.le_of_ble_eq_true rfl)
  rw [lg_entry_eq]
  generalize (lg_sl ([.ref a0]) ++ List.replicate (2 - (lg_sl ([.ref a0])).length) Slot.unset).toArray = ls at hl ⊢
  have hl : lv_has ls 2 [(0, .ref a0)] := hl
  have lp_12 : ∀ (K : Int32 → rc_S → Option (Int32 × rc_S)) (hKK : ∀ (v1 : Int32) (σ : rc_S) (H : Heap) (locs : List Loc) (ls : Array Slot), K v1 σ = some (r, σ') → rc_W Y sh rf σ H → va_S (rc_A sh s.heap.size) s.heap H locs → lv_has ls 2 [(0, .ref a0)] → W p l e (headSpec (Cond.code yX6_read cX6_read 2 (some .int) :: rc_big) ({ frames := 5, cells := 0, slots := 0, locals := 113 } : Room)).room s m (([.ref a0] : List Value).toArray) below meth c H locs 0 0 (MQ below (va_Qi (fun (r' : Int32) (_ : Unit) => r' = r) (fun _ t => rc_W Y sh rf σ' t.heap) (rc_A sh s.heap.size)) ([.ref a0] : List Value).toArray s 0 0 (rc_A sh s.heap.size)) (F0 m 58 ls [])) (n : Nat) (v1 : Int32) (σ : rc_S) (H : Heap) (locs : List Loc) (ls : Array Slot), f_X6_read_12 rf a0 K n v1 σ = some (r, σ') → rc_W Y sh rf σ H → va_S (rc_A sh s.heap.size) s.heap H locs → lv_has ls 2 [(0, .ref a0), (1, .int v1)] → W p l e (headSpec (Cond.code yX6_read cX6_read 2 (some .int) :: rc_big) ({ frames := 5, cells := 0, slots := 0, locals := 113 } : Room)).room s m (([.ref a0] : List Value).toArray) below meth c H locs 0 0 (MQ below (va_Qi (fun (r' : Int32) (_ : Unit) => r' = r) (fun _ t => rc_W Y sh rf σ' t.heap) (rc_A sh s.heap.size)) ([.ref a0] : List Value).toArray s 0 0 (rc_A sh s.heap.size)) (F0 m 12 ls []) := by
    intro  K hKK n
    induction n with
    | zero =>
      intro v1 σ H locs ls hm
      rw [f_X6_read_12] at hm
      cases hm
    | succ n ih =>
      intro v1 σ H locs ls hm hW hS hl
      rw [f_X6_read_12] at hm
      refine lv_iload_n hx hb dX6_read_12 rfl (lv_at hl 1 rfl) ?_
      refine lv_bipush (v := 60) hx hb dX6_read_13 (by decide) ?_
      refine lv_icmp_ge (tgt := 58) hx hb dX6_read_15 (by decide) (fun c_9 => ?_) (fun c_9 => ?_)
      · replace hm := rc_t hm c_9
        exact hKK v1 σ _ _ _ hm hW hS (lv_sub hl [0] rfl)
      · replace hm := rc_f hm c_9
        refine lv_aload_n hx hb dX6_read_18 rfl (lv_at hl 0 rfl) ?_
        obtain ⟨w_3, σ_3, hc_3, hm0⟩ := rc_bd_inv hm
        clear hm
        refine rc_ci hS (va_runV (As := []) (rest := []) ⟨hx, hb, hml, hown, hts⟩ (k_X6_readCommand l hT a0 h0 H.size _ _ _ hc_3) (cwV 0 hts (rc_gV tw_5_178 tw_5_180 tw_p_10 tw_1_9 tw_5_181) rfl rfl rfl (by decide +kernel) ⟨Nat.le_of_ble_eq_true rfl, Nat.le_of_ble_eq_true rfl⟩) (rc_preV hT hW hK hE hS h0 (by decide) rfl (q := (RX6, TX6, 7)) rfl []) rfl rfl hl.1 rfl (lv_room (Nat.le_of_ble_eq_true rfl)) dX6_read_19 ⟨Nat.le_of_ble_eq_true rfl, Nat.le_of_ble_eq_true rfl⟩) (fun H locs hW hS => ?_)
        have hm := hm0
        clear hm0 hc_3
        refine lv_if_eq (tgt := 58) hx hb dX6_read_22 (by decide) (fun c_8 => ?_) (fun c_8 => ?_)
        · replace hm := rc_t hm c_8
          exact hKK v1 σ_3 _ _ _ hm hW hS (lv_sub hl [0] rfl)
        · replace hm := rc_f hm c_8
          refine lv_aload_n hx hb dX6_read_25 rfl (lv_at hl 0 rfl) ?_
          refine rg_7_5 hx hb hts hown hK hW h0 tw_2_31 dX6_read_26 ?_
          refine lv_aload_n hx hb dX6_read_29 rfl (lv_at hl 0 rfl) ?_
          refine rg_7_1 hx hb hts hown hK hW h0 tw_2_24 dX6_read_30 ?_
          refine lv_icmp_ne (tgt := 38) hx hb dX6_read_33 (by decide) (fun c_7 => ?_) (fun c_7 => ?_)
          · replace hm := rc_f hm c_7
            refine lv_aload_n hx hb dX6_read_38 rfl (lv_at hl 0 rfl) ?_
            refine lv_bipush (v := 59) hx hb dX6_read_39 (by decide) ?_
            obtain ⟨w_4, σ_4, hc_4, hm0⟩ := rc_bd_inv hm
            clear hm
            refine rc_ci hS (va_runV (As := [.int (59 : Int32)]) (rest := []) ⟨hx, hb, hml, hown, hts⟩ (k_X6_readSign l hT a0 (59 : Int32) h0 H.size _ _ _ hc_4) (cwV 1 hts (rc_gV tw_6_7 tw_6_9 tw_p_13 tw_1_9 tw_6_10) rfl rfl rfl (by decide +kernel) ⟨Nat.le_of_ble_eq_true rfl, Nat.le_of_ble_eq_true rfl⟩) (rc_preV hT hW hK hE hS h0 (by decide) rfl (q := (RX6, TX6, 7)) rfl [.int (59 : Int32)]) rfl rfl hl.1 rfl (lv_room (Nat.le_of_ble_eq_true rfl)) dX6_read_41 ⟨Nat.le_of_ble_eq_true rfl, Nat.le_of_ble_eq_true rfl⟩) (fun H locs hW hS => ?_)
            have hm := hm0
            clear hm0 hc_4
            refine lv_if_ne (tgt := 52) hx hb dX6_read_44 (by decide) (fun c_6 => ?_) (fun c_6 => ?_)
            · replace hm := rc_f hm c_6
              obtain ⟨v1_5, ev⟩ : ∃ y : Int32, y = (v1 + 1) := ⟨_, rfl⟩
              replace hm := rc_lt_at hm ev
              refine lv_iinc (v := v1_5) (lv' := [(1, .int v1_5), (0, .ref a0)]) hx hb dX6_read_52 hl (k := 1) rfl (by rw [ev]; rfl) (by decide) rfl (fun ls hl => ?_)
              clear ev
              refine lv_goto (tgt := 12) hx hb dX6_read_55 (by decide) ?_
              exact ih v1_5 σ_4 _ _ _ hm hW hS (lv_sub hl [1, 0] rfl)
            · replace hm := rc_t hm c_6
              refine lv_aload_n hx hb dX6_read_47 rfl (lv_at hl 0 rfl) ?_
              refine rg_7_5 hx hb hts hown hK hW h0 tw_2_31 dX6_read_48 ?_
              exact rc_eiret hx hb hr hlocks hW hS (Nat.le_of_ble_eq_true rfl) (Nat.le_of_ble_eq_true rfl) hm dX6_read_51
          · replace hm := rc_t hm c_7
            refine lv_iconst (v := (-1)) hx hb dX6_read_36 (by decide) ?_
            exact rc_eiret hx hb hr hlocks hW hS (Nat.le_of_ble_eq_true rfl) (Nat.le_of_ble_eq_true rfl) hm dX6_read_37
  unfold f_X6_read at hm
  refine lv_aload_n hx hb dX6_read_0 rfl (lv_at hl 0 rfl) ?_
  refine lv_iconst (v := 0) hx hb dX6_read_1 (by decide) ?_
  refine rp_7_5 hx hb hts hown hK hW hS h0 tw_2_31 dX6_read_2 (fun σ_1 H locs eσ hW hS => ?_)
  replace hm := rc_lt_at hm eσ
  clear eσ
  refine lv_aload_n hx hb dX6_read_5 rfl (lv_at hl 0 rfl) ?_
  refine lv_iconst (v := 0) hx hb dX6_read_6 (by decide) ?_
  refine rp_7_4 hx hb hts hown hK hW hS h0 tw_2_29 dX6_read_7 (fun σ_2 H locs eσ hW hS => ?_)
  replace hm := rc_lt_at hm eσ
  clear eσ
  refine lv_iconst (v := 0) hx hb dX6_read_10 (by decide) ?_
  refine lv_istore_n (lv' := [(1, .int (0 : Int32)), (0, .ref a0)]) hx hb dX6_read_11 rfl hl (by decide) rfl (fun ls hl => ?_)
  refine lp_12 _ (fun v1_10 σ_11 H locs ls hm hW hS hl => ?_) rc_fu (0 : Int32) σ_2 _ _ _ hm hW hS (lv_sub hl [1, 0] rfl)
  refine lv_aload_n hx hb dX6_read_58 rfl (lv_at hl 0 rfl) ?_
  refine rg_7_5 hx hb hts hown hK hW h0 tw_2_31 dX6_read_59 ?_
  exact rc_eiret hx hb hr hlocks hW hS (Nat.le_of_ble_eq_true rfl) (Nat.le_of_ble_eq_true rfl) hm dX6_read_62
set_option maxHeartbeats 4000000 in
set_option maxRecDepth 100000 in
theorem k_X7_pourOver (l : Launch) {Y : rc_Y} {sh : Nat → Nat} {rf : rc_F} (hT : rc_T Y sh rf) (a0 : Nat) (u1 : Int32) (u2 : Int32) (u3 : Int32) (h0 : sh a0 = 8) (sz : Nat) (σ σ' : rc_S) (r : Int32) (hm : f_X7_pourOver rf a0 u1 u2 u3 σ = some (r, σ')) : Met l yX7_pourOver (Cond.code yX7_pourOver cX7_pourOver 6 (some .int) :: rc_big) ({ frames := 5, cells := 0, slots := 0, locals := 108 } : Room) (rc_P Y sh rf σ sz [.ref a0, .int u1, .int u2, .int u3]) (va_Qi (fun (r' : Int32) (_ : Unit) => r' = r) (fun _ t => rc_W Y sh rf σ' t.heap) (rc_A sh sz)) 0 0 (rc_A sh sz) := by
  refine Met.ofW (cc := cX7_pourOver) (maxL := 6) (ret := (some .int)) (by decide +kernel) rfl ?_
  intro p e s m args below meth c s₁ B hml hv
  obtain ⟨rfl, hsz, hW, hK, hE⟩ := hv
  have hx := B.exec
  have hb := B.bytes
  have hr := B.returns
  have hts : ∀ w ∈ rc_big, w.before _ s = true := fun w h => atoms_spec (ws := Cond.code yX7_pourOver cX7_pourOver 6 (some .int) :: rc_big) B.pre w (List.mem_cons_of_mem _ h)
  have hown : s.vm.findClass RX7 = some m.cls := findClass_of_methodNamed B.named
  have hlocks := B.notSynchronized
  clear B
  subst hsz
  have hS : va_S (rc_A sh s.heap.size) s.heap s.heap [] := va_S.rf
  have hl := lv_entry ([.ref a0, .int u1, .int u2, .int u3]) (n := 6) (Nat.le_of_ble_eq_true rfl)
  rw [lg_entry_eq]
  generalize (lg_sl ([.ref a0, .int u1, .int u2, .int u3]) ++ List.replicate (6 - (lg_sl ([.ref a0, .int u1, .int u2, .int u3])).length) Slot.unset).toArray = ls at hl ⊢
  have hl : lv_has ls 6 [(0, .ref a0), (1, .int u1), (2, .int u2), (3, .int u3)] := hl
  unfold f_X7_pourOver at hm
  refine lv_aload_n hx hb dX7_pourOver_0 rfl (lv_at hl 0 rfl) ?_
  refine rg_8_0 hx hb hts hown hK hW h0 tw_1_226 dX7_pourOver_1 ?_
  refine lv_iload_n hx hb dX7_pourOver_4 rfl (lv_at hl 1 rfl) ?_
  obtain ⟨w_1, σ_1, hc_1, hm0⟩ := rc_bd_inv hm
  clear hm
  refine rc_ci hS (va_runV (As := [.int u1]) (rest := []) ⟨hx, hb, hml, hown, hts⟩ (k_X1_hasBarrel l hT (rf a0 0) u1 (rc_t_8_0 hT h0) s.heap.size _ _ _ hc_1) (cwV 1 hts (rc_gV tw_4_70 tw_2_214 tw_2_215 tw_1_3 tw_2_216) rfl rfl rfl (by decide +kernel) ⟨Nat.le_of_ble_eq_true rfl, Nat.le_of_ble_eq_true rfl⟩) (rc_preV hT hW hK hE hS (rc_t_8_0 hT h0) (by decide) rfl (q := (RX1, TX1, 14)) rfl [.int u1]) rfl rfl hl.1 rfl (lv_room (Nat.le_of_ble_eq_true rfl)) dX7_pourOver_5 ⟨Nat.le_of_ble_eq_true rfl, Nat.le_of_ble_eq_true rfl⟩) (fun H locs hW hS => ?_)
  have hm := hm0
  clear hm0 hc_1
  refine lv_if_eq (tgt := 22) hx hb dX7_pourOver_8 (by decide) (fun c_23 => ?_) (fun c_23 => ?_)
  · replace hm := rc_t hm c_23
    refine lv_aload_n hx hb dX7_pourOver_22 rfl (lv_at hl 0 rfl) ?_
    refine rg_8_1 hx hb hts hown hK hW h0 tw_1_228 dX7_pourOver_23 ?_
    refine lv_iconst (v := 3) hx hb dX7_pourOver_26 (by decide) ?_
    refine lv_aload_n hx hb dX7_pourOver_27 rfl (lv_at hl 0 rfl) ?_
    refine rg_8_0 hx hb hts hown hK hW h0 tw_1_226 dX7_pourOver_28 ?_
    refine rg_2_2 hx hb hts hown hK hW (rc_t_8_0 hT h0) tw_1_147 dX7_pourOver_31 ?_
    obtain ⟨w_2, σ_2, hc_2, hm0⟩ := rc_bd_inv hm
    clear hm
    refine rc_ci hS (va_runV (As := [.int (3 : Int32), .int (σ_1 (rf a0 0) 2)]) (rest := []) ⟨hx, hb, hml, hown, hts⟩ (k_X5_because l hT (rf a0 1) (3 : Int32) (σ_1 (rf a0 0) 2) (rc_t_8_1 hT h0) H.size _ _ _ hc_2) (cwV 2 hts (rc_gV tw_3_180 tw_3_181 tw_3_182 tw_1_7 tw_3_183) rfl rfl rfl (by decide +kernel) ⟨Nat.le_of_ble_eq_true rfl, Nat.le_of_ble_eq_true rfl⟩) (rc_preV hT hW hK hE hS (rc_t_8_1 hT h0) (by decide) rfl (q := (RX5, TX5, 3)) rfl [.int (3 : Int32), .int (σ_1 (rf a0 0) 2)]) rfl rfl hl.1 rfl (lv_room (Nat.le_of_ble_eq_true rfl)) dX7_pourOver_34 ⟨Nat.le_of_ble_eq_true rfl, Nat.le_of_ble_eq_true rfl⟩) (fun H locs hW hS => ?_)
    have hm := hm0
    clear hm0 hc_2
    exact rc_eiret hx hb hr hlocks hW hS (Nat.le_of_ble_eq_true rfl) (Nat.le_of_ble_eq_true rfl) hm dX7_pourOver_37
  · replace hm := rc_f hm c_23
    refine lv_aload_n hx hb dX7_pourOver_11 rfl (lv_at hl 0 rfl) ?_
    refine rg_8_0 hx hb hts hown hK hW h0 tw_1_226 dX7_pourOver_12 ?_
    refine lv_iload_n hx hb dX7_pourOver_15 rfl (lv_at hl 2 rfl) ?_
    obtain ⟨w_3, σ_3, hc_3, hm0⟩ := rc_bd_inv hm
    clear hm
    refine rc_ci hS (va_runV (As := [.int u2]) (rest := []) ⟨hx, hb, hml, hown, hts⟩ (k_X1_hasBarrel l hT (rf a0 0) u2 (rc_t_8_0 hT h0) H.size _ _ _ hc_3) (cwV 1 hts (rc_gV tw_4_70 tw_2_214 tw_2_215 tw_1_3 tw_2_216) rfl rfl rfl (by decide +kernel) ⟨Nat.le_of_ble_eq_true rfl, Nat.le_of_ble_eq_true rfl⟩) (rc_preV hT hW hK hE hS (rc_t_8_0 hT h0) (by decide) rfl (q := (RX1, TX1, 14)) rfl [.int u2]) rfl rfl hl.1 rfl (lv_room (Nat.le_of_ble_eq_true rfl)) dX7_pourOver_16 ⟨Nat.le_of_ble_eq_true rfl, Nat.le_of_ble_eq_true rfl⟩) (fun H locs hW hS => ?_)
    have hm := hm0
    clear hm0 hc_3
    refine lv_if_ne (tgt := 38) hx hb dX7_pourOver_19 (by decide) (fun c_22 => ?_) (fun c_22 => ?_)
    · replace hm := rc_f hm c_22
      refine lv_iload_n hx hb dX7_pourOver_38 rfl (lv_at hl 1 rfl) ?_
      refine lv_iload_n hx hb dX7_pourOver_39 rfl (lv_at hl 2 rfl) ?_
      refine lv_icmp_ne (tgt := 54) hx hb dX7_pourOver_40 (by decide) (fun c_20 => ?_) (fun c_20 => ?_)
      · replace hm := rc_f hm c_20
        refine lv_iload_n hx hb dX7_pourOver_54 rfl (lv_at hl 3 rfl) ?_
        refine lv_iconst (v := 1) hx hb dX7_pourOver_55 (by decide) ?_
        refine lv_bipush (v := 20) hx hb dX7_pourOver_56 (by decide) ?_
        obtain ⟨w_4, σ_4, hc_4, hm0⟩ := rc_bd_inv hm
        clear hm
        refine rc_ci hS (va_runSN (As := [.int u3, .int (1 : Int32), .int (20 : Int32)]) (rest := []) ⟨hx, hb, hml, hown, hts⟩ (k_X8_isOutside l hT u3 (1 : Int32) (20 : Int32)  H.size _ _ _ hc_4) ⟨va_cnB 3 hts (rc_gI tw_3_78) rfl rfl rfl (rc_E_nw hE _ nw_3_179) (hts _ tw_1_1) (by decide +kernel) ⟨Nat.le_of_ble_eq_true rfl, Nat.le_of_ble_eq_true rfl⟩, hts _ tw_3_77, trivial⟩ (rc_preS hT hW hK hE hS [.int u3, .int (1 : Int32), .int (20 : Int32)]) rfl rfl hl.1 rfl (lv_room (Nat.le_of_ble_eq_true rfl)) dX7_pourOver_58 ⟨Nat.le_of_ble_eq_true rfl, Nat.le_of_ble_eq_true rfl⟩) (fun H locs hW hS => ?_)
        have hm := hm0
        clear hm0 hc_4
        refine lv_if_eq (tgt := 74) hx hb dX7_pourOver_61 (by decide) (fun c_18 => ?_) (fun c_18 => ?_)
        · replace hm := rc_t hm c_18
          refine lv_aload_n hx hb dX7_pourOver_74 rfl (lv_at hl 0 rfl) ?_
          refine rg_8_0 hx hb hts hown hK hW h0 tw_1_226 dX7_pourOver_75 ?_
          refine rg_2_1 hx hb hts hown hK hW (rc_t_8_0 hT h0) tw_1_144 dX7_pourOver_78 ?_
          refine lv_iload_n hx hb dX7_pourOver_81 rfl (lv_at hl 1 rfl) ?_
          have hi_5 := (rc_ix hm).1
          replace hm := (rc_ix hm).2
          refine rc_aald hx hb hK hW (rc_t_2_1 hT (rc_t_8_0 hT h0)) (by decide) rfl 4 rfl hi_5 dX7_pourOver_82 ?_
          refine lv_astore (lv' := [(4, .ref (rf (rf (rf a0 0) 1) u1.toNatClampNeg)), (0, .ref a0), (1, .int u1), (2, .int u2), (3, .int u3)]) hx hb dX7_pourOver_83 hl (by decide) rfl (fun ls hl => ?_)
          refine lv_aload_n hx hb dX7_pourOver_85 rfl (lv_at hl 1 rfl) ?_
          refine rg_8_0 hx hb hts hown hK hW h0 tw_1_226 dX7_pourOver_86 ?_
          refine rg_2_1 hx hb hts hown hK hW (rc_t_8_0 hT h0) tw_1_144 dX7_pourOver_89 ?_
          refine lv_iload_n hx hb dX7_pourOver_92 rfl (lv_at hl 3 rfl) ?_
          have hi_6 := (rc_ix hm).1
          replace hm := (rc_ix hm).2
          refine rc_aald hx hb hK hW (rc_t_2_1 hT (rc_t_8_0 hT h0)) (by decide) rfl 4 rfl hi_6 dX7_pourOver_93 ?_
          refine lv_astore (lv' := [(5, .ref (rf (rf (rf a0 0) 1) u2.toNatClampNeg)), (4, .ref (rf (rf (rf a0 0) 1) u1.toNatClampNeg)), (0, .ref a0), (1, .int u1), (2, .int u2), (3, .int u3)]) hx hb dX7_pourOver_94 hl (by decide) rfl (fun ls hl => ?_)
          refine lv_aload hx hb dX7_pourOver_96 (lv_at hl 1 rfl) ?_
          refine rg_1_1 hx hb hts hown hK hW (rc_t_25 hT (rc_t_2_1 hT (rc_t_8_0 hT h0)) hi_5) tw_1_90 dX7_pourOver_98 ?_
          refine lv_iload_n hx hb dX7_pourOver_101 rfl (lv_at hl 5 rfl) ?_
          refine lv_icmp_ge (tgt := 120) hx hb dX7_pourOver_102 (by decide) (fun c_16 => ?_) (fun c_16 => ?_)
          · replace hm := rc_t hm c_16
            refine lv_aload hx hb dX7_pourOver_120 (lv_at hl 0 rfl) ?_
            refine lv_aload hx hb dX7_pourOver_122 (lv_at hl 1 rfl) ?_
            refine rg_1_3 hx hb hts hown hK hW (rc_t_25 hT (rc_t_2_1 hT (rc_t_8_0 hT h0)) hi_5) tw_1_98 dX7_pourOver_124 ?_
            obtain ⟨w_7, σ_7, hc_7, hm0⟩ := rc_bd_inv hm
            clear hm
            refine rc_ci hS (va_runV (As := [.int (σ_4 (rf (rf (rf a0 0) 1) u1.toNatClampNeg) 3)]) (rest := []) ⟨hx, hb, hml, hown, hts⟩ (k_X0_isFreeFor l hT (rf (rf (rf a0 0) 1) u2.toNatClampNeg) (σ_4 (rf (rf (rf a0 0) 1) u1.toNatClampNeg) 3) (rc_t_25 hT (rc_t_2_1 hT (rc_t_8_0 hT h0)) hi_6) H.size _ _ _ hc_7) (cwV 1 hts (rc_gV tw_4_126 tw_4_127 tw_4_128 tw_1_5 tw_4_129) rfl rfl rfl (by decide +kernel) ⟨Nat.le_of_ble_eq_true rfl, Nat.le_of_ble_eq_true rfl⟩) (rc_preV hT hW hK hE hS (rc_t_25 hT (rc_t_2_1 hT (rc_t_8_0 hT h0)) hi_6) (by decide) rfl (q := (RX0, TX0, 6)) rfl [.int (σ_4 (rf (rf (rf a0 0) 1) u1.toNatClampNeg) 3)]) rfl rfl hl.1 rfl (lv_room (Nat.le_of_ble_eq_true rfl)) dX7_pourOver_127 ⟨Nat.le_of_ble_eq_true rfl, Nat.le_of_ble_eq_true rfl⟩) (fun H locs hW hS => ?_)
            have hm := hm0
            clear hm0 hc_7
            refine lv_if_ne (tgt := 148) hx hb dX7_pourOver_130 (by decide) (fun c_14 => ?_) (fun c_14 => ?_)
            · replace hm := rc_f hm c_14
              refine lv_aload hx hb dX7_pourOver_148 (lv_at hl 0 rfl) ?_
              obtain ⟨w_8, σ_8, hc_8, hm0⟩ := rc_bd_inv hm
              clear hm
              refine rc_ci hS (va_runV (As := []) (rest := []) ⟨hx, hb, hml, hown, hts⟩ (k_X0_room l hT (rf (rf (rf a0 0) 1) u2.toNatClampNeg) (rc_t_25 hT (rc_t_2_1 hT (rc_t_8_0 hT h0)) hi_6) H.size _ _ _ hc_8) (cwV 0 hts (rc_gV tw_4_86 tw_4_87 tw_4_88 tw_1_5 tw_4_89) rfl rfl rfl (by decide +kernel) ⟨Nat.le_of_ble_eq_true rfl, Nat.le_of_ble_eq_true rfl⟩) (rc_preV hT hW hK hE hS (rc_t_25 hT (rc_t_2_1 hT (rc_t_8_0 hT h0)) hi_6) (by decide) rfl (q := (RX0, TX0, 6)) rfl []) rfl rfl hl.1 rfl (lv_room (Nat.le_of_ble_eq_true rfl)) dX7_pourOver_150 ⟨Nat.le_of_ble_eq_true rfl, Nat.le_of_ble_eq_true rfl⟩) (fun H locs hW hS => ?_)
              have hm := hm0
              clear hm0 hc_8
              refine lv_iload_n hx hb dX7_pourOver_153 rfl (lv_at hl 5 rfl) ?_
              refine lv_icmp_ge (tgt := 172) hx hb dX7_pourOver_154 (by decide) (fun c_12 => ?_) (fun c_12 => ?_)
              · replace hm := rc_t hm c_12
                refine lv_aload hx hb dX7_pourOver_172 (lv_at hl 0 rfl) ?_
                refine lv_aload hx hb dX7_pourOver_174 (lv_at hl 1 rfl) ?_
                refine lv_iload_n hx hb dX7_pourOver_176 rfl (lv_at hl 5 rfl) ?_
                obtain ⟨w_9, σ_9, hc_9, hm0⟩ := rc_bd_inv hm
                clear hm
                refine rc_cv hS (va_runV (As := [.ref (rf (rf (rf a0 0) 1) u1.toNatClampNeg), .int u3]) (rest := []) ⟨hx, hb, hml, hown, hts⟩ (k_X0_pourIn l hT (rf (rf (rf a0 0) 1) u2.toNatClampNeg) (rf (rf (rf a0 0) 1) u1.toNatClampNeg) u3 (rc_t_25 hT (rc_t_2_1 hT (rc_t_8_0 hT h0)) hi_6) (rc_t_25 hT (rc_t_2_1 hT (rc_t_8_0 hT h0)) hi_5) H.size _ _ _ hc_9) (cwV 2 hts (rc_gV tw_4_130 tw_4_131 tw_4_132 tw_1_5 tw_4_133) rfl rfl rfl (by decide +kernel) ⟨Nat.le_of_ble_eq_true rfl, Nat.le_of_ble_eq_true rfl⟩) (rc_preV hT hW hK hE hS (rc_t_25 hT (rc_t_2_1 hT (rc_t_8_0 hT h0)) hi_6) (by decide) rfl (q := (RX0, TX0, 6)) rfl [.ref (rf (rf (rf a0 0) 1) u1.toNatClampNeg), .int u3]) rfl rfl hl.1 rfl (lv_room (Nat.le_of_ble_eq_true rfl)) dX7_pourOver_177 ⟨Nat.le_of_ble_eq_true rfl, Nat.le_of_ble_eq_true rfl⟩) (fun H locs hW hS => ?_)
                have hm := hm0
                clear hm0 hc_9
                refine lv_aload hx hb dX7_pourOver_180 (lv_at hl 0 rfl) ?_
                refine rg_1_1 hx hb hts hown hK hW (rc_t_25 hT (rc_t_2_1 hT (rc_t_8_0 hT h0)) hi_6) tw_1_90 dX7_pourOver_182 ?_
                exact rc_eiret hx hb hr hlocks hW hS (Nat.le_of_ble_eq_true rfl) (Nat.le_of_ble_eq_true rfl) hm dX7_pourOver_185
              · replace hm := rc_f hm c_12
                refine lv_aload_n hx hb dX7_pourOver_157 rfl (lv_at hl 2 rfl) ?_
                refine rg_8_1 hx hb hts hown hK hW h0 tw_1_228 dX7_pourOver_158 ?_
                refine lv_bipush (v := 7) hx hb dX7_pourOver_161 (by decide) ?_
                refine lv_aload hx hb dX7_pourOver_163 (lv_at hl 0 rfl) ?_
                obtain ⟨w_10, σ_10, hc_10, hm0⟩ := rc_bd_inv hm
                clear hm
                refine rc_ci hS (va_runV (As := []) (rest := [.int (7 : Int32), .ref (rf a0 1)]) ⟨hx, hb, hml, hown, hts⟩ (k_X0_room l hT (rf (rf (rf a0 0) 1) u2.toNatClampNeg) (rc_t_25 hT (rc_t_2_1 hT (rc_t_8_0 hT h0)) hi_6) H.size _ _ _ hc_10) (cwV 0 hts (rc_gV tw_4_86 tw_4_87 tw_4_88 tw_1_5 tw_4_89) rfl rfl rfl (by decide +kernel) ⟨Nat.le_of_ble_eq_true rfl, Nat.le_of_ble_eq_true rfl⟩) (rc_preV hT hW hK hE hS (rc_t_25 hT (rc_t_2_1 hT (rc_t_8_0 hT h0)) hi_6) (by decide) rfl (q := (RX0, TX0, 6)) rfl []) rfl rfl hl.1 rfl (lv_room (Nat.le_of_ble_eq_true rfl)) dX7_pourOver_165 ⟨Nat.le_of_ble_eq_true rfl, Nat.le_of_ble_eq_true rfl⟩) (fun H locs hW hS => ?_)
                have hm := hm0
                clear hm0 hc_10
                obtain ⟨w_11, σ_11, hc_11, hm0⟩ := rc_bd_inv hm
                clear hm
                refine rc_ci hS (va_runV (As := [.int (7 : Int32), .int w_10]) (rest := []) ⟨hx, hb, hml, hown, hts⟩ (k_X5_because l hT (rf a0 1) (7 : Int32) w_10 (rc_t_8_1 hT h0) H.size _ _ _ hc_11) (cwV 2 hts (rc_gV tw_3_180 tw_3_181 tw_3_182 tw_1_7 tw_3_183) rfl rfl rfl (by decide +kernel) ⟨Nat.le_of_ble_eq_true rfl, Nat.le_of_ble_eq_true rfl⟩) (rc_preV hT hW hK hE hS (rc_t_8_1 hT h0) (by decide) rfl (q := (RX5, TX5, 3)) rfl [.int (7 : Int32), .int w_10]) rfl rfl hl.1 rfl (lv_room (Nat.le_of_ble_eq_true rfl)) dX7_pourOver_168 ⟨Nat.le_of_ble_eq_true rfl, Nat.le_of_ble_eq_true rfl⟩) (fun H locs hW hS => ?_)
                have hm := hm0
                clear hm0 hc_11
                exact rc_eiret hx hb hr hlocks hW hS (Nat.le_of_ble_eq_true rfl) (Nat.le_of_ble_eq_true rfl) hm dX7_pourOver_171
            · replace hm := rc_t hm c_14
              refine lv_aload_n hx hb dX7_pourOver_133 rfl (lv_at hl 2 rfl) ?_
              refine rg_8_1 hx hb hts hown hK hW h0 tw_1_228 dX7_pourOver_134 ?_
              refine lv_bipush (v := 9) hx hb dX7_pourOver_137 (by decide) ?_
              refine lv_aload hx hb dX7_pourOver_139 (lv_at hl 0 rfl) ?_
              refine rg_1_3 hx hb hts hown hK hW (rc_t_25 hT (rc_t_2_1 hT (rc_t_8_0 hT h0)) hi_6) tw_1_98 dX7_pourOver_141 ?_
              obtain ⟨w_13, σ_13, hc_13, hm0⟩ := rc_bd_inv hm
              clear hm
              refine rc_ci hS (va_runV (As := [.int (9 : Int32), .int (σ_7 (rf (rf (rf a0 0) 1) u2.toNatClampNeg) 3)]) (rest := []) ⟨hx, hb, hml, hown, hts⟩ (k_X5_because l hT (rf a0 1) (9 : Int32) (σ_7 (rf (rf (rf a0 0) 1) u2.toNatClampNeg) 3) (rc_t_8_1 hT h0) H.size _ _ _ hc_13) (cwV 2 hts (rc_gV tw_3_180 tw_3_181 tw_3_182 tw_1_7 tw_3_183) rfl rfl rfl (by decide +kernel) ⟨Nat.le_of_ble_eq_true rfl, Nat.le_of_ble_eq_true rfl⟩) (rc_preV hT hW hK hE hS (rc_t_8_1 hT h0) (by decide) rfl (q := (RX5, TX5, 3)) rfl [.int (9 : Int32), .int (σ_7 (rf (rf (rf a0 0) 1) u2.toNatClampNeg) 3)]) rfl rfl hl.1 rfl (lv_room (Nat.le_of_ble_eq_true rfl)) dX7_pourOver_144 ⟨Nat.le_of_ble_eq_true rfl, Nat.le_of_ble_eq_true rfl⟩) (fun H locs hW hS => ?_)
              have hm := hm0
              clear hm0 hc_13
              exact rc_eiret hx hb hr hlocks hW hS (Nat.le_of_ble_eq_true rfl) (Nat.le_of_ble_eq_true rfl) hm dX7_pourOver_147
          · replace hm := rc_f hm c_16
            refine lv_aload_n hx hb dX7_pourOver_105 rfl (lv_at hl 2 rfl) ?_
            refine rg_8_1 hx hb hts hown hK hW h0 tw_1_228 dX7_pourOver_106 ?_
            refine lv_bipush (v := 6) hx hb dX7_pourOver_109 (by decide) ?_
            refine lv_aload hx hb dX7_pourOver_111 (lv_at hl 1 rfl) ?_
            refine rg_1_1 hx hb hts hown hK hW (rc_t_25 hT (rc_t_2_1 hT (rc_t_8_0 hT h0)) hi_5) tw_1_90 dX7_pourOver_113 ?_
            obtain ⟨w_15, σ_15, hc_15, hm0⟩ := rc_bd_inv hm
            clear hm
            refine rc_ci hS (va_runV (As := [.int (6 : Int32), .int (σ_4 (rf (rf (rf a0 0) 1) u1.toNatClampNeg) 1)]) (rest := []) ⟨hx, hb, hml, hown, hts⟩ (k_X5_because l hT (rf a0 1) (6 : Int32) (σ_4 (rf (rf (rf a0 0) 1) u1.toNatClampNeg) 1) (rc_t_8_1 hT h0) H.size _ _ _ hc_15) (cwV 2 hts (rc_gV tw_3_180 tw_3_181 tw_3_182 tw_1_7 tw_3_183) rfl rfl rfl (by decide +kernel) ⟨Nat.le_of_ble_eq_true rfl, Nat.le_of_ble_eq_true rfl⟩) (rc_preV hT hW hK hE hS (rc_t_8_1 hT h0) (by decide) rfl (q := (RX5, TX5, 3)) rfl [.int (6 : Int32), .int (σ_4 (rf (rf (rf a0 0) 1) u1.toNatClampNeg) 1)]) rfl rfl hl.1 rfl (lv_room (Nat.le_of_ble_eq_true rfl)) dX7_pourOver_116 ⟨Nat.le_of_ble_eq_true rfl, Nat.le_of_ble_eq_true rfl⟩) (fun H locs hW hS => ?_)
            have hm := hm0
            clear hm0 hc_15
            exact rc_eiret hx hb hr hlocks hW hS (Nat.le_of_ble_eq_true rfl) (Nat.le_of_ble_eq_true rfl) hm dX7_pourOver_119
        · replace hm := rc_f hm c_18
          refine lv_aload_n hx hb dX7_pourOver_64 rfl (lv_at hl 0 rfl) ?_
          refine rg_8_1 hx hb hts hown hK hW h0 tw_1_228 dX7_pourOver_65 ?_
          refine lv_iconst (v := 1) hx hb dX7_pourOver_68 (by decide) ?_
          refine lv_iconst (v := 0) hx hb dX7_pourOver_69 (by decide) ?_
          obtain ⟨w_17, σ_17, hc_17, hm0⟩ := rc_bd_inv hm
          clear hm
          refine rc_ci hS (va_runV (As := [.int (1 : Int32), .int (0 : Int32)]) (rest := []) ⟨hx, hb, hml, hown, hts⟩ (k_X5_because l hT (rf a0 1) (1 : Int32) (0 : Int32) (rc_t_8_1 hT h0) H.size _ _ _ hc_17) (cwV 2 hts (rc_gV tw_3_180 tw_3_181 tw_3_182 tw_1_7 tw_3_183) rfl rfl rfl (by decide +kernel) ⟨Nat.le_of_ble_eq_true rfl, Nat.le_of_ble_eq_true rfl⟩) (rc_preV hT hW hK hE hS (rc_t_8_1 hT h0) (by decide) rfl (q := (RX5, TX5, 3)) rfl [.int (1 : Int32), .int (0 : Int32)]) rfl rfl hl.1 rfl (lv_room (Nat.le_of_ble_eq_true rfl)) dX7_pourOver_70 ⟨Nat.le_of_ble_eq_true rfl, Nat.le_of_ble_eq_true rfl⟩) (fun H locs hW hS => ?_)
          have hm := hm0
          clear hm0 hc_17
          exact rc_eiret hx hb hr hlocks hW hS (Nat.le_of_ble_eq_true rfl) (Nat.le_of_ble_eq_true rfl) hm dX7_pourOver_73
      · replace hm := rc_t hm c_20
        refine lv_aload_n hx hb dX7_pourOver_43 rfl (lv_at hl 0 rfl) ?_
        refine rg_8_1 hx hb hts hown hK hW h0 tw_1_228 dX7_pourOver_44 ?_
        refine lv_bipush (v := 8) hx hb dX7_pourOver_47 (by decide) ?_
        refine lv_iload_n hx hb dX7_pourOver_49 rfl (lv_at hl 1 rfl) ?_
        obtain ⟨w_19, σ_19, hc_19, hm0⟩ := rc_bd_inv hm
        clear hm
        refine rc_ci hS (va_runV (As := [.int (8 : Int32), .int u1]) (rest := []) ⟨hx, hb, hml, hown, hts⟩ (k_X5_because l hT (rf a0 1) (8 : Int32) u1 (rc_t_8_1 hT h0) H.size _ _ _ hc_19) (cwV 2 hts (rc_gV tw_3_180 tw_3_181 tw_3_182 tw_1_7 tw_3_183) rfl rfl rfl (by decide +kernel) ⟨Nat.le_of_ble_eq_true rfl, Nat.le_of_ble_eq_true rfl⟩) (rc_preV hT hW hK hE hS (rc_t_8_1 hT h0) (by decide) rfl (q := (RX5, TX5, 3)) rfl [.int (8 : Int32), .int u1]) rfl rfl hl.1 rfl (lv_room (Nat.le_of_ble_eq_true rfl)) dX7_pourOver_50 ⟨Nat.le_of_ble_eq_true rfl, Nat.le_of_ble_eq_true rfl⟩) (fun H locs hW hS => ?_)
        have hm := hm0
        clear hm0 hc_19
        exact rc_eiret hx hb hr hlocks hW hS (Nat.le_of_ble_eq_true rfl) (Nat.le_of_ble_eq_true rfl) hm dX7_pourOver_53
    · replace hm := rc_t hm c_22
      refine lv_aload_n hx hb dX7_pourOver_22 rfl (lv_at hl 0 rfl) ?_
      refine rg_8_1 hx hb hts hown hK hW h0 tw_1_228 dX7_pourOver_23 ?_
      refine lv_iconst (v := 3) hx hb dX7_pourOver_26 (by decide) ?_
      refine lv_aload_n hx hb dX7_pourOver_27 rfl (lv_at hl 0 rfl) ?_
      refine rg_8_0 hx hb hts hown hK hW h0 tw_1_226 dX7_pourOver_28 ?_
      refine rg_2_2 hx hb hts hown hK hW (rc_t_8_0 hT h0) tw_1_147 dX7_pourOver_31 ?_
      obtain ⟨w_21, σ_21, hc_21, hm0⟩ := rc_bd_inv hm
      clear hm
      refine rc_ci hS (va_runV (As := [.int (3 : Int32), .int (σ_3 (rf a0 0) 2)]) (rest := []) ⟨hx, hb, hml, hown, hts⟩ (k_X5_because l hT (rf a0 1) (3 : Int32) (σ_3 (rf a0 0) 2) (rc_t_8_1 hT h0) H.size _ _ _ hc_21) (cwV 2 hts (rc_gV tw_3_180 tw_3_181 tw_3_182 tw_1_7 tw_3_183) rfl rfl rfl (by decide +kernel) ⟨Nat.le_of_ble_eq_true rfl, Nat.le_of_ble_eq_true rfl⟩) (rc_preV hT hW hK hE hS (rc_t_8_1 hT h0) (by decide) rfl (q := (RX5, TX5, 3)) rfl [.int (3 : Int32), .int (σ_3 (rf a0 0) 2)]) rfl rfl hl.1 rfl (lv_room (Nat.le_of_ble_eq_true rfl)) dX7_pourOver_34 ⟨Nat.le_of_ble_eq_true rfl, Nat.le_of_ble_eq_true rfl⟩) (fun H locs hW hS => ?_)
      have hm := hm0
      clear hm0 hc_21
      exact rc_eiret hx hb hr hlocks hW hS (Nat.le_of_ble_eq_true rfl) (Nat.le_of_ble_eq_true rfl) hm dX7_pourOver_37
set_option maxHeartbeats 4000000 in
set_option maxRecDepth 100000 in
theorem k_X8_pour (l : Launch) (hl9 : l.stackTraces = false) {Y : rc_Y} {sh : Nat → Nat} {rf : rc_F} (hT : rc_T Y sh rf) (a0 : Nat) (u1 : Int32) (u2 : Int32) (u3 : Int32) (h0 : sh a0 = 9) (sz : Nat) (σ σ' : rc_S) (k : Nat) (r : Int32) (hm : f_X8_pour rf a0 u1 u2 u3 σ = some (k, r, σ')) : vx_Met l yX8_pour (Cond.code yX8_pour cX8_pour 4 (some .int) :: rc_big) ({ frames := 7, cells := 1, slots := 6, locals := 133 } : Room) (rc_P Y sh rf σ sz [.ref a0, .int u1, .int u2, .int u3]) (va_Qi (fun (r' : Int32) (_ : Unit) => k = 0 ∧ r' = r) (fun _ t => rc_W Y sh rf σ' t.heap) (rc_A sh sz)) (rc_XC Y sh rf σ' k sz) 1 6 (rc_A sh sz) := by
  refine vx_ofW (cc := cX8_pour) (maxL := 4) (ret := (some .int)) (by decide +kernel) rfl ?_
  intro p e s m args below meth c s₁ B hml hout hv
  obtain ⟨rfl, hsz, hW, hK, hE⟩ := hv
  have hx := B.exec
  have hb := B.bytes
  have hr := B.returns
  have hts : ∀ w ∈ rc_big, w.before _ s = true := fun w h => atoms_spec (ws := Cond.code yX8_pour cX8_pour 4 (some .int) :: rc_big) B.pre w (List.mem_cons_of_mem _ h)
  have hown : s.vm.findClass RX8 = some m.cls := findClass_of_methodNamed B.named
  have hlocks := B.notSynchronized
  clear B
  subst hsz
  have hS : va_S (rc_A sh s.heap.size) s.heap s.heap [] := va_S.rf
  have hl := lv_entry ([.ref a0, .int u1, .int u2, .int u3]) (n := 4) (Nat.le_of_ble_eq_true rfl)
  rw [lg_entry_eq]
  generalize (lg_sl ([.ref a0, .int u1, .int u2, .int u3]) ++ List.replicate (4 - (lg_sl ([.ref a0, .int u1, .int u2, .int u3])).length) Slot.unset).toArray = ls at hl ⊢
  have hl : lv_has ls 4 [(0, .ref a0), (1, .int u1), (2, .int u2), (3, .int u3)] := hl
  unfold f_X8_pour at hm
  refine lv_aload_n hx hb dX8_pour_0 rfl (lv_at hl 0 rfl) ?_
  refine rg_9_5 hx hb hts hown hK hW h0 tw_2_87 dX8_pour_1 ?_
  refine lv_aload_n hx hb dX8_pour_4 rfl (lv_at hl 0 rfl) ?_
  refine rg_9_1 hx hb hts hown hK hW h0 tw_2_83 dX8_pour_5 ?_
  obtain ⟨w_1, σ_1, hc_1, hm0⟩ := rc_bd_inv hm
  clear hm
  refine rc_cv hS (va_runV (As := [.ref (rf a0 1)]) (rest := []) ⟨hx, hb, hml, hown, hts⟩ (k_X2_setAside l hT (rf a0 5) (rf a0 1) (rc_t_9_5 hT h0) (rc_t_9_1 hT h0) s.heap.size _ _ _ hc_1) (cwV 1 hts (rc_gV tw_3_140 tw_3_141 tw_3_142 tw_1_8 tw_3_143) rfl rfl rfl (by decide +kernel) ⟨Nat.le_of_ble_eq_true rfl, Nat.le_of_ble_eq_true rfl⟩) (rc_preV hT hW hK hE hS (rc_t_9_5 hT h0) (by decide) rfl (q := (RX2, TX2, 3)) rfl [.ref (rf a0 1)]) rfl rfl hl.1 rfl (lv_room (Nat.le_of_ble_eq_true rfl)) dX8_pour_8 ⟨Nat.le_of_ble_eq_true rfl, Nat.le_of_ble_eq_true rfl⟩) (fun H locs hW hS => ?_)
  have hm := hm0
  clear hm0 hc_1
  refine lv_aload_n hx hb dX8_pour_11 rfl (lv_at hl 0 rfl) ?_
  refine lv_aload_n hx hb dX8_pour_12 rfl (lv_at hl 0 rfl) ?_
  refine rg_9_0 hx hb hts hown hK hW h0 tw_2_82 dX8_pour_13 ?_
  refine lv_iload_n hx hb dX8_pour_16 rfl (lv_at hl 1 rfl) ?_
  refine lv_iload_n hx hb dX8_pour_17 rfl (lv_at hl 2 rfl) ?_
  refine lv_iload_n hx hb dX8_pour_18 rfl (lv_at hl 3 rfl) ?_
  obtain ⟨w_2, σ_2, hc_2, hm0⟩ := rc_bd_inv hm
  clear hm
  refine rc_ci hS (va_runV (As := [.int u1, .int u2, .int u3]) (rest := [.ref a0]) ⟨hx, hb, hml, hown, hts⟩ (k_X7_pourOver l hT (rf a0 0) u1 u2 u3 (rc_t_9_0 hT h0) H.size _ _ _ hc_2) (cwV 3 hts (rc_gV tw_4_122 tw_4_123 tw_4_124 tw_1_2 tw_4_125) rfl rfl rfl (by decide +kernel) ⟨Nat.le_of_ble_eq_true rfl, Nat.le_of_ble_eq_true rfl⟩) (rc_preV hT hW hK hE hS (rc_t_9_0 hT h0) (by decide) rfl (q := (RX7, TX7, 2)) rfl [.int u1, .int u2, .int u3]) rfl rfl hl.1 rfl (lv_room (Nat.le_of_ble_eq_true rfl)) dX8_pour_19 ⟨Nat.le_of_ble_eq_true rfl, Nat.le_of_ble_eq_true rfl⟩) (fun H locs hW hS => ?_)
  have hm := hm0
  clear hm0 hc_2
  obtain ⟨k_3, w_3, σ_3, hc_3, hm0, hk_3⟩ := rc_bx_inv hm
  clear hm
  refine rc_xci hout hlocks hS hk_3 (Nat.le_of_ble_eq_true rfl) (Nat.le_of_ble_eq_true rfl) (vx_runV (As := [.int w_2]) (rest := []) ⟨hx, hb, hml, hown, hts⟩ (k_X8_kept l hl9 hT a0 w_2 h0 H.size _ _ _ _ hc_3) (cwV 1 hts (rc_gV tw_3_192 tw_3_194 tw_p_6 tw_1_1 tw_3_195) rfl rfl rfl (by decide +kernel) ⟨Nat.le_of_ble_eq_true rfl, Nat.le_of_ble_eq_true rfl⟩) (rc_preV hT hW hK hE hS h0 (by decide) rfl (q := (RX8, TX8, 9)) rfl [.int w_2]) rfl rfl hl.1 rfl (lv_room (Nat.le_of_ble_eq_true rfl)) dX8_pour_22 ⟨Nat.le_of_ble_eq_true rfl, Nat.le_of_ble_eq_true rfl⟩) (fun H locs h0_3 hW hS => ?_)
  have hm := hm0 h0_3
  clear hm0 hc_3 hk_3
  exact rc_xiret hx hb hr hlocks hW hS (Nat.le_of_ble_eq_true rfl) (Nat.le_of_ble_eq_true rfl) hm dX8_pour_25
set_option maxHeartbeats 4000000 in
set_option maxRecDepth 100000 in
theorem k_X8_carryOut (l : Launch) {Y : rc_Y} {sh : Nat → Nat} {rf : rc_F} (hT : rc_T Y sh rf) (a0 : Nat) (u1 : Int32) (h0 : sh a0 = 9) (sz : Nat) (σ σ' : rc_S) (r : Int32) (hm : f_X8_carryOut rf a0 u1 σ = some (r, σ')) : Met l yX8_carryOut (Cond.code yX8_carryOut cX8_carryOut 4 (some .int) :: rc_big) ({ frames := 6, cells := 0, slots := 0, locals := 133 } : Room) (rc_P Y sh rf σ sz [.ref a0, .int u1]) (va_Qi (fun (r' : Int32) (_ : Unit) => r' = r) (fun _ t => rc_W Y sh rf σ' t.heap) (rc_A sh sz)) 0 0 (rc_A sh sz) := by
  refine Met.ofW (cc := cX8_carryOut) (maxL := 4) (ret := (some .int)) (by decide +kernel) rfl ?_
  intro p e s m args below meth c s₁ B hml hv
  obtain ⟨rfl, hsz, hW, hK, hE⟩ := hv
  have hx := B.exec
  have hb := B.bytes
  have hr := B.returns
  have hts : ∀ w ∈ rc_big, w.before _ s = true := fun w h => atoms_spec (ws := Cond.code yX8_carryOut cX8_carryOut 4 (some .int) :: rc_big) B.pre w (List.mem_cons_of_mem _ h)
  have hown : s.vm.findClass RX8 = some m.cls := findClass_of_methodNamed B.named
  have hlocks := B.notSynchronized
  clear B
  subst hsz
  have hS : va_S (rc_A sh s.heap.size) s.heap s.heap [] := va_S.rf
  have hl := lv_entry ([.ref a0, .int u1]) (n := 4) (Nat.le_of_ble_eq_true rfl)
  rw [lg_entry_eq]
  generalize (lg_sl ([.ref a0, .int u1]) ++ List.replicate (4 - (lg_sl ([.ref a0, .int u1])).length) Slot.unset).toArray = ls at hl ⊢
  have hl : lv_has ls 4 [(0, .ref a0), (1, .int u1)] := hl
  unfold f_X8_carryOut at hm
  refine lv_aload_n hx hb dX8_carryOut_0 rfl (lv_at hl 0 rfl) ?_
  refine rg_9_6 hx hb hts hown hK hW h0 tw_2_88 dX8_carryOut_1 ?_
  refine lv_iload_n hx hb dX8_carryOut_4 rfl (lv_at hl 1 rfl) ?_
  refine lv_iconst (v := 0) hx hb dX8_carryOut_5 (by decide) ?_
  obtain ⟨w_1, σ_1, hc_1, hm0⟩ := rc_bd_inv hm
  clear hm
  refine rc_ci hS (va_runV (As := [.int u1, .int (0 : Int32)]) (rest := []) ⟨hx, hb, hml, hown, hts⟩ (k_X6_numberOf l hT (rf a0 6) u1 (0 : Int32) (rc_t_9_6 hT h0) s.heap.size _ _ _ hc_1) (cwV 2 hts (rc_gV tw_6_19 tw_6_20 tw_6_21 tw_1_9 tw_6_22) rfl rfl rfl (by decide +kernel) ⟨Nat.le_of_ble_eq_true rfl, Nat.le_of_ble_eq_true rfl⟩) (rc_preV hT hW hK hE hS (rc_t_9_6 hT h0) (by decide) rfl (q := (RX6, TX6, 7)) rfl [.int u1, .int (0 : Int32)]) rfl rfl hl.1 rfl (lv_room (Nat.le_of_ble_eq_true rfl)) dX8_carryOut_6 ⟨Nat.le_of_ble_eq_true rfl, Nat.le_of_ble_eq_true rfl⟩) (fun H locs hW hS => ?_)
  have hm := hm0
  clear hm0 hc_1
  refine lv_istore_n (lv' := [(2, .int w_1), (0, .ref a0), (1, .int u1)]) hx hb dX8_carryOut_9 rfl hl (by decide) rfl (fun ls hl => ?_)
  refine lv_aload_n hx hb dX8_carryOut_10 rfl (lv_at hl 1 rfl) ?_
  refine rg_9_6 hx hb hts hown hK hW h0 tw_2_88 dX8_carryOut_11 ?_
  refine lv_iload_n hx hb dX8_carryOut_14 rfl (lv_at hl 2 rfl) ?_
  refine lv_iconst (v := 1) hx hb dX8_carryOut_15 (by decide) ?_
  obtain ⟨w_2, σ_2, hc_2, hm0⟩ := rc_bd_inv hm
  clear hm
  refine rc_ci hS (va_runV (As := [.int u1, .int (1 : Int32)]) (rest := []) ⟨hx, hb, hml, hown, hts⟩ (k_X6_numberOf l hT (rf a0 6) u1 (1 : Int32) (rc_t_9_6 hT h0) H.size _ _ _ hc_2) (cwV 2 hts (rc_gV tw_6_19 tw_6_20 tw_6_21 tw_1_9 tw_6_22) rfl rfl rfl (by decide +kernel) ⟨Nat.le_of_ble_eq_true rfl, Nat.le_of_ble_eq_true rfl⟩) (rc_preV hT hW hK hE hS (rc_t_9_6 hT h0) (by decide) rfl (q := (RX6, TX6, 7)) rfl [.int u1, .int (1 : Int32)]) rfl rfl hl.1 rfl (lv_room (Nat.le_of_ble_eq_true rfl)) dX8_carryOut_16 ⟨Nat.le_of_ble_eq_true rfl, Nat.le_of_ble_eq_true rfl⟩) (fun H locs hW hS => ?_)
  have hm := hm0
  clear hm0 hc_2
  refine lv_istore_n (lv' := [(3, .int w_2), (2, .int w_1), (0, .ref a0), (1, .int u1)]) hx hb dX8_carryOut_19 rfl hl (by decide) rfl (fun ls hl => ?_)
  refine lv_aload_n hx hb dX8_carryOut_20 rfl (lv_at hl 2 rfl) ?_
  refine rg_9_6 hx hb hts hown hK hW h0 tw_2_88 dX8_carryOut_21 ?_
  refine rg_7_2 hx hb hts hown hK hW (rc_t_9_6 hT h0) tw_2_27 dX8_carryOut_24 ?_
  refine lv_iload_n hx hb dX8_carryOut_27 rfl (lv_at hl 3 rfl) ?_
  have hi_3 := (rc_ix hm).1
  replace hm := (rc_ix hm).2
  refine rc_caldj (j := u1.toNatClampNeg) hx hb hK hW (rc_t_7_2 hT (rc_t_9_6 hT h0)) (by decide) rfl hi_3 rfl dX8_carryOut_28 ?_
  by_cases c_4 : (σ_2 (rf (rf a0 6) 2) u1.toNatClampNeg) = (98 : Int32)
  · replace hm := rc_t hm c_4
    refine lv_tableIn (off := 117) (tgt := 146) hx hb dX8_carryOut_29 (by rw [c_4]; decide) (by rw [c_4]; decide) (by rw [c_4]; decide) (by decide) ?_
    refine lv_aload_n hx hb dX8_carryOut_146 rfl (lv_at hl 2 rfl) ?_
    refine rg_9_0 hx hb hts hown hK hW h0 tw_2_82 dX8_carryOut_147 ?_
    refine lv_iload_n hx hb dX8_carryOut_150 rfl (lv_at hl 1 rfl) ?_
    obtain ⟨w_5, σ_5, hc_5, hm0⟩ := rc_bd_inv hm
    clear hm
    refine rc_ci hS (va_runV (As := [.int w_1]) (rest := []) ⟨hx, hb, hml, hown, hts⟩ (k_X7_placeBarrel l hT (rf a0 0) w_1 (rc_t_9_0 hT h0) H.size _ _ _ hc_5) (cwV 1 hts (rc_gV tw_3_175 tw_3_176 tw_3_177 tw_1_2 tw_3_178) rfl rfl rfl (by decide +kernel) ⟨Nat.le_of_ble_eq_true rfl, Nat.le_of_ble_eq_true rfl⟩) (rc_preV hT hW hK hE hS (rc_t_9_0 hT h0) (by decide) rfl (q := (RX7, TX7, 2)) rfl [.int w_1]) rfl rfl hl.1 rfl (lv_room (Nat.le_of_ble_eq_true rfl)) dX8_carryOut_151 ⟨Nat.le_of_ble_eq_true rfl, Nat.le_of_ble_eq_true rfl⟩) (fun H locs hW hS => ?_)
    have hm := hm0
    clear hm0 hc_5
    exact rc_eiret hx hb hr hlocks hW hS (Nat.le_of_ble_eq_true rfl) (Nat.le_of_ble_eq_true rfl) hm dX8_carryOut_154
  · replace hm := rc_f hm c_4
    by_cases c_6 : (σ_2 (rf (rf a0 6) 2) u1.toNatClampNeg) = (99 : Int32)
    · replace hm := rc_t hm c_6
      refine lv_tableIn (off := 202) (tgt := 231) hx hb dX8_carryOut_29 (by rw [c_6]; decide) (by rw [c_6]; decide) (by rw [c_6]; decide) (by decide) ?_
      refine lv_aload_n hx hb dX8_carryOut_231 rfl (lv_at hl 2 rfl) ?_
      refine rg_9_0 hx hb hts hown hK hW h0 tw_2_82 dX8_carryOut_232 ?_
      refine lv_iload_n hx hb dX8_carryOut_235 rfl (lv_at hl 1 rfl) ?_
      obtain ⟨w_7, σ_7, hc_7, hm0⟩ := rc_bd_inv hm
      clear hm
      refine rc_ci hS (va_runV (As := [.int w_1]) (rest := []) ⟨hx, hb, hml, hown, hts⟩ (k_X7_clearRoof l hT (rf a0 0) w_1 (rc_t_9_0 hT h0) H.size _ _ _ hc_7) (cwV 1 hts (rc_gV tw_4_55 tw_4_56 tw_4_57 tw_1_2 tw_4_58) rfl rfl rfl (by decide +kernel) ⟨Nat.le_of_ble_eq_true rfl, Nat.le_of_ble_eq_true rfl⟩) (rc_preV hT hW hK hE hS (rc_t_9_0 hT h0) (by decide) rfl (q := (RX7, TX7, 2)) rfl [.int w_1]) rfl rfl hl.1 rfl (lv_room (Nat.le_of_ble_eq_true rfl)) dX8_carryOut_236 ⟨Nat.le_of_ble_eq_true rfl, Nat.le_of_ble_eq_true rfl⟩) (fun H locs hW hS => ?_)
      have hm := hm0
      clear hm0 hc_7
      exact rc_eiret hx hb hr hlocks hW hS (Nat.le_of_ble_eq_true rfl) (Nat.le_of_ble_eq_true rfl) hm dX8_carryOut_239
    · replace hm := rc_f hm c_6
      by_cases c_8 : (σ_2 (rf (rf a0 6) 2) u1.toNatClampNeg) = (103 : Int32)
      · replace hm := rc_t hm c_8
        refine lv_tableIn (off := 193) (tgt := 222) hx hb dX8_carryOut_29 (by rw [c_8]; decide) (by rw [c_8]; decide) (by rw [c_8]; decide) (by decide) ?_
        refine lv_aload_n hx hb dX8_carryOut_222 rfl (lv_at hl 2 rfl) ?_
        refine rg_9_0 hx hb hts hown hK hW h0 tw_2_82 dX8_carryOut_223 ?_
        refine lv_iload_n hx hb dX8_carryOut_226 rfl (lv_at hl 1 rfl) ?_
        obtain ⟨w_9, σ_9, hc_9, hm0⟩ := rc_bd_inv hm
        clear hm
        refine rc_ci hS (va_runV (As := [.int w_1]) (rest := []) ⟨hx, hb, hml, hown, hts⟩ (k_X7_letPanelDrink l hT (rf a0 0) w_1 (rc_t_9_0 hT h0) H.size _ _ _ hc_9) (cwV 1 hts (rc_gV tw_4_98 tw_4_99 tw_4_100 tw_1_2 tw_4_101) rfl rfl rfl (by decide +kernel) ⟨Nat.le_of_ble_eq_true rfl, Nat.le_of_ble_eq_true rfl⟩) (rc_preV hT hW hK hE hS (rc_t_9_0 hT h0) (by decide) rfl (q := (RX7, TX7, 2)) rfl [.int w_1]) rfl rfl hl.1 rfl (lv_room (Nat.le_of_ble_eq_true rfl)) dX8_carryOut_227 ⟨Nat.le_of_ble_eq_true rfl, Nat.le_of_ble_eq_true rfl⟩) (fun H locs hW hS => ?_)
        have hm := hm0
        clear hm0 hc_9
        exact rc_eiret hx hb hr hlocks hW hS (Nat.le_of_ble_eq_true rfl) (Nat.le_of_ble_eq_true rfl) hm dX8_carryOut_230
      · replace hm := rc_f hm c_8
        by_cases c_10 : (σ_2 (rf (rf a0 6) 2) u1.toNatClampNeg) = (104 : Int32)
        · replace hm := rc_t hm c_10
          refine lv_tableIn (off := 154) (tgt := 183) hx hb dX8_carryOut_29 (by rw [c_10]; decide) (by rw [c_10]; decide) (by rw [c_10]; decide) (by decide) ?_
          refine lv_aload_n hx hb dX8_carryOut_183 rfl (lv_at hl 2 rfl) ?_
          refine rg_9_0 hx hb hts hown hK hW h0 tw_2_82 dX8_carryOut_184 ?_
          refine lv_iload_n hx hb dX8_carryOut_187 rfl (lv_at hl 1 rfl) ?_
          refine lv_iload_n hx hb dX8_carryOut_188 rfl (lv_at hl 0 rfl) ?_
          obtain ⟨w_11, σ_11, hc_11, hm0⟩ := rc_bd_inv hm
          clear hm
          refine rc_ci hS (va_runV (As := [.int w_1, .int w_2]) (rest := []) ⟨hx, hb, hml, hown, hts⟩ (k_X7_adulterate l hT (rf a0 0) w_1 w_2 (rc_t_9_0 hT h0) H.size _ _ _ hc_11) (cwV 2 hts (rc_gV tw_4_82 tw_4_83 tw_4_84 tw_1_2 tw_4_85) rfl rfl rfl (by decide +kernel) ⟨Nat.le_of_ble_eq_true rfl, Nat.le_of_ble_eq_true rfl⟩) (rc_preV hT hW hK hE hS (rc_t_9_0 hT h0) (by decide) rfl (q := (RX7, TX7, 2)) rfl [.int w_1, .int w_2]) rfl rfl hl.1 rfl (lv_room (Nat.le_of_ble_eq_true rfl)) dX8_carryOut_189 ⟨Nat.le_of_ble_eq_true rfl, Nat.le_of_ble_eq_true rfl⟩) (fun H locs hW hS => ?_)
          have hm := hm0
          clear hm0 hc_11
          exact rc_eiret hx hb hr hlocks hW hS (Nat.le_of_ble_eq_true rfl) (Nat.le_of_ble_eq_true rfl) hm dX8_carryOut_192
        · replace hm := rc_f hm c_10
          by_cases c_12 : (σ_2 (rf (rf a0 6) 2) u1.toNatClampNeg) = (108 : Int32)
          · replace hm := rc_t hm c_12
            refine lv_tableIn (off := 184) (tgt := 213) hx hb dX8_carryOut_29 (by rw [c_12]; decide) (by rw [c_12]; decide) (by rw [c_12]; decide) (by decide) ?_
            refine lv_aload_n hx hb dX8_carryOut_213 rfl (lv_at hl 2 rfl) ?_
            refine rg_9_0 hx hb hts hown hK hW h0 tw_2_82 dX8_carryOut_214 ?_
            refine lv_iload_n hx hb dX8_carryOut_217 rfl (lv_at hl 1 rfl) ?_
            obtain ⟨w_13, σ_13, hc_13, hm0⟩ := rc_bd_inv hm
            clear hm
            refine rc_ci hS (va_runV (As := [.int w_1]) (rest := []) ⟨hx, hb, hml, hown, hts⟩ (k_X7_letLeave l hT (rf a0 0) w_1 (rc_t_9_0 hT h0) H.size _ _ _ hc_13) (cwV 1 hts (rc_gV tw_4_36 tw_4_37 tw_4_38 tw_1_2 tw_4_39) rfl rfl rfl (by decide +kernel) ⟨Nat.le_of_ble_eq_true rfl, Nat.le_of_ble_eq_true rfl⟩) (rc_preV hT hW hK hE hS (rc_t_9_0 hT h0) (by decide) rfl (q := (RX7, TX7, 2)) rfl [.int w_1]) rfl rfl hl.1 rfl (lv_room (Nat.le_of_ble_eq_true rfl)) dX8_carryOut_218 ⟨Nat.le_of_ble_eq_true rfl, Nat.le_of_ble_eq_true rfl⟩) (fun H locs hW hS => ?_)
            have hm := hm0
            clear hm0 hc_13
            exact rc_eiret hx hb hr hlocks hW hS (Nat.le_of_ble_eq_true rfl) (Nat.le_of_ble_eq_true rfl) hm dX8_carryOut_221
          · replace hm := rc_f hm c_12
            by_cases c_14 : (σ_2 (rf (rf a0 6) 2) u1.toNatClampNeg) = (109 : Int32)
            · replace hm := rc_t hm c_14
              refine lv_tableIn (off := 164) (tgt := 193) hx hb dX8_carryOut_29 (by rw [c_14]; decide) (by rw [c_14]; decide) (by rw [c_14]; decide) (by decide) ?_
              refine lv_aload_n hx hb dX8_carryOut_193 rfl (lv_at hl 2 rfl) ?_
              refine rg_9_0 hx hb hts hown hK hW h0 tw_2_82 dX8_carryOut_194 ?_
              refine lv_iload_n hx hb dX8_carryOut_197 rfl (lv_at hl 1 rfl) ?_
              refine lv_iconst (v := 0) hx hb dX8_carryOut_198 (by decide) ?_
              obtain ⟨w_15, σ_15, hc_15, hm0⟩ := rc_bd_inv hm
              clear hm
              refine rc_ci hS (va_runV (As := [.int w_1, .int (0 : Int32)]) (rest := []) ⟨hx, hb, hml, hown, hts⟩ (k_X7_letCome l hT (rf a0 0) w_1 (0 : Int32) (rc_t_9_0 hT h0) H.size _ _ _ hc_15) (cwV 2 hts (rc_gV tw_4_21 tw_4_22 tw_4_23 tw_1_2 tw_4_24) rfl rfl rfl (by decide +kernel) ⟨Nat.le_of_ble_eq_true rfl, Nat.le_of_ble_eq_true rfl⟩) (rc_preV hT hW hK hE hS (rc_t_9_0 hT h0) (by decide) rfl (q := (RX7, TX7, 2)) rfl [.int w_1, .int (0 : Int32)]) rfl rfl hl.1 rfl (lv_room (Nat.le_of_ble_eq_true rfl)) dX8_carryOut_199 ⟨Nat.le_of_ble_eq_true rfl, Nat.le_of_ble_eq_true rfl⟩) (fun H locs hW hS => ?_)
              have hm := hm0
              clear hm0 hc_15
              exact rc_eiret hx hb hr hlocks hW hS (Nat.le_of_ble_eq_true rfl) (Nat.le_of_ble_eq_true rfl) hm dX8_carryOut_202
            · replace hm := rc_f hm c_14
              by_cases c_16 : (σ_2 (rf (rf a0 6) 2) u1.toNatClampNeg) = (112 : Int32)
              · replace hm := rc_t hm c_16
                refine lv_tableIn (off := 135) (tgt := 164) hx hb dX8_carryOut_29 (by rw [c_16]; decide) (by rw [c_16]; decide) (by rw [c_16]; decide) (by decide) ?_
                refine lv_aload_n hx hb dX8_carryOut_164 rfl (lv_at hl 2 rfl) ?_
                refine rg_9_0 hx hb hts hown hK hW h0 tw_2_82 dX8_carryOut_165 ?_
                refine lv_iload_n hx hb dX8_carryOut_168 rfl (lv_at hl 1 rfl) ?_
                refine lv_iload_n hx hb dX8_carryOut_169 rfl (lv_at hl 0 rfl) ?_
                refine lv_aload_n hx hb dX8_carryOut_170 rfl (lv_at hl 2 rfl) ?_
                refine rg_9_6 hx hb hts hown hK hW h0 tw_2_88 dX8_carryOut_171 ?_
                refine lv_iload_n hx hb dX8_carryOut_174 rfl (lv_at hl 3 rfl) ?_
                refine lv_iconst (v := 2) hx hb dX8_carryOut_175 (by decide) ?_
                obtain ⟨w_17, σ_17, hc_17, hm0⟩ := rc_bd_inv hm
                clear hm
                refine rc_ci hS (va_runV (As := [.int u1, .int (2 : Int32)]) (rest := [.int w_2, .int w_1, .ref (rf a0 0)]) ⟨hx, hb, hml, hown, hts⟩ (k_X6_numberOf l hT (rf a0 6) u1 (2 : Int32) (rc_t_9_6 hT h0) H.size _ _ _ hc_17) (cwV 2 hts (rc_gV tw_6_19 tw_6_20 tw_6_21 tw_1_9 tw_6_22) rfl rfl rfl (by decide +kernel) ⟨Nat.le_of_ble_eq_true rfl, Nat.le_of_ble_eq_true rfl⟩) (rc_preV hT hW hK hE hS (rc_t_9_6 hT h0) (by decide) rfl (q := (RX6, TX6, 7)) rfl [.int u1, .int (2 : Int32)]) rfl rfl hl.1 rfl (lv_room (Nat.le_of_ble_eq_true rfl)) dX8_carryOut_176 ⟨Nat.le_of_ble_eq_true rfl, Nat.le_of_ble_eq_true rfl⟩) (fun H locs hW hS => ?_)
                have hm := hm0
                clear hm0 hc_17
                obtain ⟨w_18, σ_18, hc_18, hm0⟩ := rc_bd_inv hm
                clear hm
                refine rc_ci hS (va_runV (As := [.int w_1, .int w_2, .int w_17]) (rest := []) ⟨hx, hb, hml, hown, hts⟩ (k_X7_pourOver l hT (rf a0 0) w_1 w_2 w_17 (rc_t_9_0 hT h0) H.size _ _ _ hc_18) (cwV 3 hts (rc_gV tw_4_122 tw_4_123 tw_4_124 tw_1_2 tw_4_125) rfl rfl rfl (by decide +kernel) ⟨Nat.le_of_ble_eq_true rfl, Nat.le_of_ble_eq_true rfl⟩) (rc_preV hT hW hK hE hS (rc_t_9_0 hT h0) (by decide) rfl (q := (RX7, TX7, 2)) rfl [.int w_1, .int w_2, .int w_17]) rfl rfl hl.1 rfl (lv_room (Nat.le_of_ble_eq_true rfl)) dX8_carryOut_179 ⟨Nat.le_of_ble_eq_true rfl, Nat.le_of_ble_eq_true rfl⟩) (fun H locs hW hS => ?_)
                have hm := hm0
                clear hm0 hc_18
                exact rc_eiret hx hb hr hlocks hW hS (Nat.le_of_ble_eq_true rfl) (Nat.le_of_ble_eq_true rfl) hm dX8_carryOut_182
              · replace hm := rc_f hm c_16
                by_cases c_19 : (σ_2 (rf (rf a0 6) 2) u1.toNatClampNeg) = (115 : Int32)
                · replace hm := rc_t hm c_19
                  refine lv_tableIn (off := 107) (tgt := 136) hx hb dX8_carryOut_29 (by rw [c_19]; decide) (by rw [c_19]; decide) (by rw [c_19]; decide) (by decide) ?_
                  refine lv_aload_n hx hb dX8_carryOut_136 rfl (lv_at hl 2 rfl) ?_
                  refine rg_9_0 hx hb hts hown hK hW h0 tw_2_82 dX8_carryOut_137 ?_
                  refine lv_iload_n hx hb dX8_carryOut_140 rfl (lv_at hl 1 rfl) ?_
                  refine lv_iload_n hx hb dX8_carryOut_141 rfl (lv_at hl 0 rfl) ?_
                  obtain ⟨w_20, σ_20, hc_20, hm0⟩ := rc_bd_inv hm
                  clear hm
                  refine rc_ci hS (va_runV (As := [.int w_1, .int w_2]) (rest := []) ⟨hx, hb, hml, hown, hts⟩ (k_X7_letStormBy l hT (rf a0 0) w_1 w_2 (rc_t_9_0 hT h0) H.size _ _ _ hc_20) (cwV 2 hts (rc_gV tw_3_222 tw_3_223 tw_3_224 tw_1_2 tw_3_225) rfl rfl rfl (by decide +kernel) ⟨Nat.le_of_ble_eq_true rfl, Nat.le_of_ble_eq_true rfl⟩) (rc_preV hT hW hK hE hS (rc_t_9_0 hT h0) (by decide) rfl (q := (RX7, TX7, 2)) rfl [.int w_1, .int w_2]) rfl rfl hl.1 rfl (lv_room (Nat.le_of_ble_eq_true rfl)) dX8_carryOut_142 ⟨Nat.le_of_ble_eq_true rfl, Nat.le_of_ble_eq_true rfl⟩) (fun H locs hW hS => ?_)
                  have hm := hm0
                  clear hm0 hc_20
                  exact rc_eiret hx hb hr hlocks hW hS (Nat.le_of_ble_eq_true rfl) (Nat.le_of_ble_eq_true rfl) hm dX8_carryOut_145
                · replace hm := rc_f hm c_19
                  by_cases c_21 : (σ_2 (rf (rf a0 6) 2) u1.toNatClampNeg) = (116 : Int32)
                  · replace hm := rc_t hm c_21
                    refine lv_tableIn (off := 174) (tgt := 203) hx hb dX8_carryOut_29 (by rw [c_21]; decide) (by rw [c_21]; decide) (by rw [c_21]; decide) (by decide) ?_
                    refine lv_aload_n hx hb dX8_carryOut_203 rfl (lv_at hl 2 rfl) ?_
                    refine rg_9_0 hx hb hts hown hK hW h0 tw_2_82 dX8_carryOut_204 ?_
                    refine lv_iload_n hx hb dX8_carryOut_207 rfl (lv_at hl 1 rfl) ?_
                    refine lv_iconst (v := 1) hx hb dX8_carryOut_208 (by decide) ?_
                    obtain ⟨w_22, σ_22, hc_22, hm0⟩ := rc_bd_inv hm
                    clear hm
                    refine rc_ci hS (va_runV (As := [.int w_1, .int (1 : Int32)]) (rest := []) ⟨hx, hb, hml, hown, hts⟩ (k_X7_letCome l hT (rf a0 0) w_1 (1 : Int32) (rc_t_9_0 hT h0) H.size _ _ _ hc_22) (cwV 2 hts (rc_gV tw_4_21 tw_4_22 tw_4_23 tw_1_2 tw_4_24) rfl rfl rfl (by decide +kernel) ⟨Nat.le_of_ble_eq_true rfl, Nat.le_of_ble_eq_true rfl⟩) (rc_preV hT hW hK hE hS (rc_t_9_0 hT h0) (by decide) rfl (q := (RX7, TX7, 2)) rfl [.int w_1, .int (1 : Int32)]) rfl rfl hl.1 rfl (lv_room (Nat.le_of_ble_eq_true rfl)) dX8_carryOut_209 ⟨Nat.le_of_ble_eq_true rfl, Nat.le_of_ble_eq_true rfl⟩) (fun H locs hW hS => ?_)
                    have hm := hm0
                    clear hm0 hc_22
                    exact rc_eiret hx hb hr hlocks hW hS (Nat.le_of_ble_eq_true rfl) (Nat.le_of_ble_eq_true rfl) hm dX8_carryOut_212
                  · replace hm := rc_f hm c_21
                    by_cases c_23 : (σ_2 (rf (rf a0 6) 2) u1.toNatClampNeg) = (120 : Int32)
                    · replace hm := rc_t hm c_23
                      refine lv_tableIn (off := 126) (tgt := 155) hx hb dX8_carryOut_29 (by rw [c_23]; decide) (by rw [c_23]; decide) (by rw [c_23]; decide) (by decide) ?_
                      refine lv_aload_n hx hb dX8_carryOut_155 rfl (lv_at hl 2 rfl) ?_
                      refine rg_9_0 hx hb hts hown hK hW h0 tw_2_82 dX8_carryOut_156 ?_
                      refine lv_iload_n hx hb dX8_carryOut_159 rfl (lv_at hl 1 rfl) ?_
                      obtain ⟨w_24, σ_24, hc_24, hm0⟩ := rc_bd_inv hm
                      clear hm
                      refine rc_ci hS (va_runV (As := [.int w_1]) (rest := []) ⟨hx, hb, hml, hown, hts⟩ (k_X7_removeBarrel l hT (rf a0 0) w_1 (rc_t_9_0 hT h0) H.size _ _ _ hc_24) (cwV 1 hts (rc_gV tw_4_66 tw_4_67 tw_4_68 tw_1_2 tw_4_69) rfl rfl rfl (by decide +kernel) ⟨Nat.le_of_ble_eq_true rfl, Nat.le_of_ble_eq_true rfl⟩) (rc_preV hT hW hK hE hS (rc_t_9_0 hT h0) (by decide) rfl (q := (RX7, TX7, 2)) rfl [.int w_1]) rfl rfl hl.1 rfl (lv_room (Nat.le_of_ble_eq_true rfl)) dX8_carryOut_160 ⟨Nat.le_of_ble_eq_true rfl, Nat.le_of_ble_eq_true rfl⟩) (fun H locs hW hS => ?_)
                      have hm := hm0
                      clear hm0 hc_24
                      exact rc_eiret hx hb hr hlocks hW hS (Nat.le_of_ble_eq_true rfl) (Nat.le_of_ble_eq_true rfl) hm dX8_carryOut_163
                    · replace hm := rc_f hm c_23
                      refine rc_tblD (tgt := 240) hx hb dX8_carryOut_29 [98, 99, 103, 104, 108, 109, 112, 115, 116, 120] (by decide +kernel) (by decide +kernel) (rc_nk c_4 (by decide) (rc_nk c_6 (by decide) (rc_nk c_8 (by decide) (rc_nk c_10 (by decide) (rc_nk c_12 (by decide) (rc_nk c_14 (by decide) (rc_nk c_16 (by decide) (rc_nk c_19 (by decide) (rc_nk c_21 (by decide) (rc_nk c_23 (by decide) rc_nk0)))))))))) (by decide) ?_
                      refine lv_aload_n hx hb dX8_carryOut_240 rfl (lv_at hl 2 rfl) ?_
                      refine rg_9_0 hx hb hts hown hK hW h0 tw_2_82 dX8_carryOut_241 ?_
                      obtain ⟨w_25, σ_25, hc_25, hm0⟩ := rc_bd_inv hm
                      clear hm
                      refine rc_ci hS (va_runV (As := []) (rest := []) ⟨hx, hb, hml, hown, hts⟩ (k_X7_letYearGoBy l hT (rf a0 0) (rc_t_9_0 hT h0) H.size _ _ _ hc_25) (cwV 0 hts (rc_gV tw_4_10 tw_4_11 tw_4_12 tw_1_2 tw_4_13) rfl rfl rfl (by decide +kernel) ⟨Nat.le_of_ble_eq_true rfl, Nat.le_of_ble_eq_true rfl⟩) (rc_preV hT hW hK hE hS (rc_t_9_0 hT h0) (by decide) rfl (q := (RX7, TX7, 2)) rfl []) rfl rfl hl.1 rfl (lv_room (Nat.le_of_ble_eq_true rfl)) dX8_carryOut_244 ⟨Nat.le_of_ble_eq_true rfl, Nat.le_of_ble_eq_true rfl⟩) (fun H locs hW hS => ?_)
                      have hm := hm0
                      clear hm0 hc_25
                      exact rc_eiret hx hb hr hlocks hW hS (Nat.le_of_ble_eq_true rfl) (Nat.le_of_ble_eq_true rfl) hm dX8_carryOut_247
set_option maxHeartbeats 4000000 in
set_option maxRecDepth 100000 in
theorem k_X8_commands (l : Launch) (hl9 : l.stackTraces = false) {Y : rc_Y} {sh : Nat → Nat} {rf : rc_F} (hT : rc_T Y sh rf) (a0 : Nat) (h0 : sh a0 = 9) (sz : Nat) (σ σ' : rc_S) (k : Nat) (r : Int32) (hm : f_X8_commands rf a0 σ = some (k, r, σ')) : vx_Met l yX8_commands (Cond.code yX8_commands cX8_commands 2 (some .int) :: rc_big) ({ frames := 7, cells := 1, slots := 6, locals := 156 } : Room) (rc_P Y sh rf σ sz [.ref a0]) (va_Qi (fun (r' : Int32) (_ : Unit) => k = 0 ∧ r' = r) (fun _ t => rc_W Y sh rf σ' t.heap) (rc_A sh sz)) (rc_XC Y sh rf σ' k sz) 1 6 (rc_A sh sz) := by
  refine vx_ofW (cc := cX8_commands) (maxL := 2) (ret := (some .int)) (by decide +kernel) rfl ?_
  intro p e s m args below meth c s₁ B hml hout hv
  obtain ⟨rfl, hsz, hW, hK, hE⟩ := hv
  have hx := B.exec
  have hb := B.bytes
  have hr := B.returns
  have hts : ∀ w ∈ rc_big, w.before _ s = true := fun w h => atoms_spec (ws := Cond.code yX8_commands cX8_commands 2 (some .int) :: rc_big) B.pre w (List.mem_cons_of_mem _ h)
  have hown : s.vm.findClass RX8 = some m.cls := findClass_of_methodNamed B.named
  have hlocks := B.notSynchronized
  clear B
  subst hsz
  have hS : va_S (rc_A sh s.heap.size) s.heap s.heap [] := va_S.rf
  have hl := lv_entry ([.ref a0]) (n := 2) (Nat.le_of_ble_eq_true rfl)
  rw [lg_entry_eq]
  generalize (lg_sl ([.ref a0]) ++ List.replicate (2 - (lg_sl ([.ref a0])).length) Slot.unset).toArray = ls at hl ⊢
  have hl : lv_has ls 2 [(0, .ref a0)] := hl
  have lp_47 : ∀ (K : Int32 → rc_S → Option (Nat × Int32 × rc_S)) (hKK : ∀ (v1 : Int32) (σ : rc_S) (H : Heap) (locs : List Loc) (ls : Array Slot), K v1 σ = some (k, r, σ') → rc_W Y sh rf σ H → va_S (rc_A sh s.heap.size) s.heap H locs → lv_has ls 2 [(0, .ref a0)] → W p l e (headSpec (Cond.code yX8_commands cX8_commands 2 (some .int) :: rc_big) ({ frames := 7, cells := 1, slots := 6, locals := 156 } : Room)).room s m (([.ref a0] : List Value).toArray) below meth c H locs (0 + 0 + 0 + 0) (0 + 0 + 0 + 0) (vx_MQ below (va_Qi (fun (r' : Int32) (_ : Unit) => k = 0 ∧ r' = r) (fun _ t => rc_W Y sh rf σ' t.heap) (rc_A sh s.heap.size)) (rc_XC Y sh rf σ' k s.heap.size) ([.ref a0] : List Value).toArray s 1 6 (rc_A sh s.heap.size)) (F0 m 103 ls [])) (n : Nat) (v1 : Int32) (σ : rc_S) (H : Heap) (locs : List Loc) (ls : Array Slot), f_X8_commands_47 rf a0 K n v1 σ = some (k, r, σ') → rc_W Y sh rf σ H → va_S (rc_A sh s.heap.size) s.heap H locs → lv_has ls 2 [(0, .ref a0), (1, .int v1)] → W p l e (headSpec (Cond.code yX8_commands cX8_commands 2 (some .int) :: rc_big) ({ frames := 7, cells := 1, slots := 6, locals := 156 } : Room)).room s m (([.ref a0] : List Value).toArray) below meth c H locs (0 + 0 + 0 + 0) (0 + 0 + 0 + 0) (vx_MQ below (va_Qi (fun (r' : Int32) (_ : Unit) => k = 0 ∧ r' = r) (fun _ t => rc_W Y sh rf σ' t.heap) (rc_A sh s.heap.size)) (rc_XC Y sh rf σ' k s.heap.size) ([.ref a0] : List Value).toArray s 1 6 (rc_A sh s.heap.size)) (F0 m 47 ls []) := by
    intro  K hKK n
    induction n with
    | zero =>
      intro v1 σ H locs ls hm
      rw [f_X8_commands_47] at hm
      cases hm
    | succ n ih =>
      intro v1 σ H locs ls hm hW hS hl
      rw [f_X8_commands_47] at hm
      refine lv_iload_n hx hb dX8_commands_47 rfl (lv_at hl 1 rfl) ?_
      refine lv_aload_n hx hb dX8_commands_48 rfl (lv_at hl 0 rfl) ?_
      refine rg_9_6 hx hb hts hown hK hW h0 tw_2_88 dX8_commands_49 ?_
      refine rg_7_4 hx hb hts hown hK hW (rc_t_9_6 hT h0) tw_2_30 dX8_commands_52 ?_
      refine lv_icmp_ge (tgt := 103) hx hb dX8_commands_55 (by decide) (fun c_11 => ?_) (fun c_11 => ?_)
      · replace hm := rc_t hm c_11
        exact hKK v1 σ _ _ _ hm hW hS (lv_sub hl [0] rfl)
      · replace hm := rc_f hm c_11
        refine lv_aload_n hx hb dX8_commands_58 rfl (lv_at hl 0 rfl) ?_
        refine lv_iload_n hx hb dX8_commands_59 rfl (lv_at hl 1 rfl) ?_
        obtain ⟨w_5, σ_5, hc_5, hm0⟩ := rc_bd_inv hm
        clear hm
        refine rc_ci hS (va_runV (As := [.int v1]) (rest := []) ⟨hx, hb, hml, hown, hts⟩ (k_X8_carryOut l hT a0 v1 h0 H.size _ _ _ hc_5) (cwV 1 hts (rc_gV tw_6_15 tw_6_17 tw_p_14 tw_1_1 tw_6_18) rfl rfl rfl (by decide +kernel) ⟨Nat.le_of_ble_eq_true rfl, Nat.le_of_ble_eq_true rfl⟩) (rc_preV hT hW hK hE hS h0 (by decide) rfl (q := (RX8, TX8, 9)) rfl [.int v1]) rfl rfl hl.1 rfl (lv_room (Nat.le_of_ble_eq_true rfl)) dX8_commands_60 ⟨Nat.le_of_ble_eq_true rfl, Nat.le_of_ble_eq_true rfl⟩) (fun H locs hW hS => ?_)
        have hm := hm0
        clear hm0 hc_5
        refine lv_iconst (v := (-1)) hx hb dX8_commands_63 (by decide) ?_
        refine lv_icmp_ne (tgt := 97) hx hb dX8_commands_64 (by decide) (fun c_10 => ?_) (fun c_10 => ?_)
        · replace hm := rc_f hm c_10
          obtain ⟨v1_6, ev⟩ : ∃ y : Int32, y = (v1 + 1) := ⟨_, rfl⟩
          replace hm := rc_lt_at hm ev
          refine lv_iinc (v := v1_6) (lv' := [(1, .int v1_6), (0, .ref a0)]) hx hb dX8_commands_97 hl (k := 1) rfl (by rw [ev]; rfl) (by decide) rfl (fun ls hl => ?_)
          clear ev
          refine lv_goto (tgt := 47) hx hb dX8_commands_100 (by decide) ?_
          exact ih v1_6 σ_5 _ _ _ hm hW hS (lv_sub hl [1, 0] rfl)
        · replace hm := rc_t hm c_10
          refine lv_aload_n hx hb dX8_commands_67 rfl (lv_at hl 0 rfl) ?_
          refine rg_9_1 hx hb hts hown hK hW h0 tw_2_83 dX8_commands_68 ?_
          refine lv_aload_n hx hb dX8_commands_71 rfl (lv_at hl 0 rfl) ?_
          refine rg_9_5 hx hb hts hown hK hW h0 tw_2_87 dX8_commands_72 ?_
          obtain ⟨w_7, σ_7, hc_7, hm0⟩ := rc_bd_inv hm
          clear hm
          refine rc_cr hS (va_runV (As := []) (rest := [.ref (rf a0 1)]) ⟨hx, hb, hml, hown, hts⟩ (k_X2_aside l hT (rf a0 5) (rc_t_9_5 hT h0) H.size _ _ _ hc_7) (cwV 0 hts (rc_gV tw_6_23 tw_3_145 tw_3_146 tw_1_8 tw_3_147) rfl rfl rfl (by decide +kernel) ⟨Nat.le_of_ble_eq_true rfl, Nat.le_of_ble_eq_true rfl⟩) (rc_preV hT hW hK hE hS (rc_t_9_5 hT h0) (by decide) rfl (q := (RX2, TX2, 3)) rfl []) rfl rfl hl.1 rfl (lv_room (Nat.le_of_ble_eq_true rfl)) dX8_commands_75 ⟨Nat.le_of_ble_eq_true rfl, Nat.le_of_ble_eq_true rfl⟩) (fun H locs hr_7 hW hS => ?_)
          have hm := hm0
          clear hm0 hc_7
          obtain ⟨w_8, σ_8, hc_8, hm0⟩ := rc_bd_inv hm
          clear hm
          refine rc_cv hS (va_runV (As := [.ref w_7]) (rest := []) ⟨hx, hb, hml, hown, hts⟩ (k_X1_copy l hT (rf a0 1) w_7 (rc_t_9_1 hT h0) hr_7 H.size _ _ _ hc_8) (cwV 1 hts (rc_gV tw_6_24 tw_3_152 tw_3_153 tw_1_3 tw_3_154) rfl rfl rfl (by decide +kernel) ⟨Nat.le_of_ble_eq_true rfl, Nat.le_of_ble_eq_true rfl⟩) (rc_preV hT hW hK hE hS (rc_t_9_1 hT h0) (by decide) rfl (q := (RX1, TX1, 14)) rfl [.ref w_7]) rfl rfl hl.1 rfl (lv_room (Nat.le_of_ble_eq_true rfl)) dX8_commands_78 ⟨Nat.le_of_ble_eq_true rfl, Nat.le_of_ble_eq_true rfl⟩) (fun H locs hW hS => ?_)
          have hm := hm0
          clear hm0 hc_8
          refine lv_aload_n hx hb dX8_commands_81 rfl (lv_at hl 0 rfl) ?_
          refine rg_9_2 hx hb hts hown hK hW h0 tw_2_84 dX8_commands_82 ?_
          refine lv_iload_n hx hb dX8_commands_85 rfl (lv_at hl 1 rfl) ?_
          refine rp_6_2 hx hb hts hown hK hW hS (rc_t_9_2 hT h0) tw_1_218 dX8_commands_86 (fun σ_9 H locs eσ hW hS => ?_)
          replace hm := rc_lt_at hm eσ
          clear eσ
          exact rc_throw (n := 1) hx hb hl9 hT hE hW hS hts hown rfl (by decide) (by decide) rc_hk_1 rc_hi_1 (rc_hat_1 hts hE) rc_hgd_1 (hl.1.trans hml.symm) dX8_commands_89 dX8_commands_92 dX8_commands_93 dX8_commands_96 hout ⟨Nat.le_of_ble_eq_true rfl, Nat.le_of_ble_eq_true rfl, Nat.le_of_ble_eq_true rfl, Nat.le_of_ble_eq_true rfl⟩ hlocks (Nat.le_of_ble_eq_true rfl) (Nat.le_of_ble_eq_true rfl) hm
  unfold f_X8_commands at hm
  refine lv_aload_n hx hb dX8_commands_0 rfl (lv_at hl 0 rfl) ?_
  refine lv_aload_n hx hb dX8_commands_1 rfl (lv_at hl 0 rfl) ?_
  refine rg_9_6 hx hb hts hown hK hW h0 tw_2_88 dX8_commands_2 ?_
  obtain ⟨w_1, σ_1, hc_1, hm0⟩ := rc_bd_inv hm
  clear hm
  refine rc_ci hS (va_runV (As := []) (rest := [.ref a0]) ⟨hx, hb, hml, hown, hts⟩ (k_X6_read l hT (rf a0 6) (rc_t_9_6 hT h0) s.heap.size _ _ _ hc_1) (cwV 0 hts (rc_gV tw_5_174 tw_5_175 tw_5_176 tw_1_9 tw_5_177) rfl rfl rfl (by decide +kernel) ⟨Nat.le_of_ble_eq_true rfl, Nat.le_of_ble_eq_true rfl⟩) (rc_preV hT hW hK hE hS (rc_t_9_6 hT h0) (by decide) rfl (q := (RX6, TX6, 7)) rfl []) rfl rfl hl.1 rfl (lv_room (Nat.le_of_ble_eq_true rfl)) dX8_commands_5 ⟨Nat.le_of_ble_eq_true rfl, Nat.le_of_ble_eq_true rfl⟩) (fun H locs hW hS => ?_)
  have hm := hm0
  clear hm0 hc_1
  refine rp_9_7 hx hb hts hown hK hW hS h0 tw_2_89 dX8_commands_8 (fun σ_2 H locs eσ hW hS => ?_)
  replace hm := rc_lt_at hm eσ
  clear eσ
  refine lv_aload_n hx hb dX8_commands_11 rfl (lv_at hl 0 rfl) ?_
  refine rg_9_6 hx hb hts hown hK hW h0 tw_2_88 dX8_commands_12 ?_
  obtain ⟨w_3, σ_3, hc_3, hm0⟩ := rc_bd_inv hm
  clear hm
  refine rc_cv hS (va_runV (As := []) (rest := []) ⟨hx, hb, hml, hown, hts⟩ (k_X6_makeEmpty l hT (rf a0 6) (rc_t_9_6 hT h0) H.size _ _ _ hc_3) (cwV 0 hts (rc_gV tw_6_11 tw_6_12 tw_6_13 tw_1_9 tw_6_14) rfl rfl rfl (by decide +kernel) ⟨Nat.le_of_ble_eq_true rfl, Nat.le_of_ble_eq_true rfl⟩) (rc_preV hT hW hK hE hS (rc_t_9_6 hT h0) (by decide) rfl (q := (RX6, TX6, 7)) rfl []) rfl rfl hl.1 rfl (lv_room (Nat.le_of_ble_eq_true rfl)) dX8_commands_15 ⟨Nat.le_of_ble_eq_true rfl, Nat.le_of_ble_eq_true rfl⟩) (fun H locs hW hS => ?_)
  have hm := hm0
  clear hm0 hc_3
  refine lv_aload_n hx hb dX8_commands_18 rfl (lv_at hl 0 rfl) ?_
  refine rg_9_7 hx hb hts hown hK hW h0 tw_2_89 dX8_commands_19 ?_
  refine lv_iconst (v := (-1)) hx hb dX8_commands_22 (by decide) ?_
  refine lv_icmp_eq (tgt := 34) hx hb dX8_commands_23 (by decide) (fun c_15 => ?_) (fun c_15 => ?_)
  · replace hm := rc_t hm c_15
    refine lv_aload_n hx hb dX8_commands_34 rfl (lv_at hl 0 rfl) ?_
    refine rg_9_5 hx hb hts hown hK hW h0 tw_2_87 dX8_commands_35 ?_
    refine lv_aload_n hx hb dX8_commands_38 rfl (lv_at hl 0 rfl) ?_
    refine rg_9_1 hx hb hts hown hK hW h0 tw_2_83 dX8_commands_39 ?_
    obtain ⟨w_4, σ_4, hc_4, hm0⟩ := rc_bd_inv hm
    clear hm
    refine rc_cv hS (va_runV (As := [.ref (rf a0 1)]) (rest := []) ⟨hx, hb, hml, hown, hts⟩ (k_X2_setAside l hT (rf a0 5) (rf a0 1) (rc_t_9_5 hT h0) (rc_t_9_1 hT h0) H.size _ _ _ hc_4) (cwV 1 hts (rc_gV tw_3_140 tw_3_141 tw_3_142 tw_1_8 tw_3_143) rfl rfl rfl (by decide +kernel) ⟨Nat.le_of_ble_eq_true rfl, Nat.le_of_ble_eq_true rfl⟩) (rc_preV hT hW hK hE hS (rc_t_9_5 hT h0) (by decide) rfl (q := (RX2, TX2, 3)) rfl [.ref (rf a0 1)]) rfl rfl hl.1 rfl (lv_room (Nat.le_of_ble_eq_true rfl)) dX8_commands_42 ⟨Nat.le_of_ble_eq_true rfl, Nat.le_of_ble_eq_true rfl⟩) (fun H locs hW hS => ?_)
    have hm := hm0
    clear hm0 hc_4
    refine lv_iconst (v := 0) hx hb dX8_commands_45 (by decide) ?_
    refine lv_istore_n (lv' := [(1, .int (0 : Int32)), (0, .ref a0)]) hx hb dX8_commands_46 rfl hl (by decide) rfl (fun ls hl => ?_)
    refine lp_47 _ (fun v1_12 σ_13 H locs ls hm hW hS hl => ?_) rc_fu (0 : Int32) σ_4 _ _ _ hm hW hS (lv_sub hl [1, 0] rfl)
    refine lv_aload_n hx hb dX8_commands_103 rfl (lv_at hl 0 rfl) ?_
    refine rg_9_5 hx hb hts hown hK hW h0 tw_2_87 dX8_commands_104 ?_
    obtain ⟨w_14, σ_14, hc_14, hm0⟩ := rc_bd_inv hm
    clear hm
    refine rc_cv hS (va_runV (As := []) (rest := []) ⟨hx, hb, hml, hown, hts⟩ (k_X2_keepAside l hT (rf a0 5) (rc_t_9_5 hT h0) H.size _ _ _ hc_14) (cwV 0 hts (rc_gV tw_3_211 tw_3_212 tw_3_213 tw_1_8 tw_3_214) rfl rfl rfl (by decide +kernel) ⟨Nat.le_of_ble_eq_true rfl, Nat.le_of_ble_eq_true rfl⟩) (rc_preV hT hW hK hE hS (rc_t_9_5 hT h0) (by decide) rfl (q := (RX2, TX2, 3)) rfl []) rfl rfl hl.1 rfl (lv_room (Nat.le_of_ble_eq_true rfl)) dX8_commands_107 ⟨Nat.le_of_ble_eq_true rfl, Nat.le_of_ble_eq_true rfl⟩) (fun H locs hW hS => ?_)
    have hm := hm0
    clear hm0 hc_14
    refine lv_aload_n hx hb dX8_commands_110 rfl (lv_at hl 0 rfl) ?_
    refine rg_9_6 hx hb hts hown hK hW h0 tw_2_88 dX8_commands_111 ?_
    refine rg_7_4 hx hb hts hown hK hW (rc_t_9_6 hT h0) tw_2_30 dX8_commands_114 ?_
    exact rc_xiret hx hb hr hlocks hW hS (Nat.le_of_ble_eq_true rfl) (Nat.le_of_ble_eq_true rfl) hm dX8_commands_117
  · replace hm := rc_f hm c_15
    exact rc_throw (n := 3) hx hb hl9 hT hE hW hS hts hown rfl (by decide) (by decide) rc_hk_3 rc_hi_3 (rc_hat_3 hts hE) rc_hgd_3 (hl.1.trans hml.symm) dX8_commands_26 dX8_commands_29 dX8_commands_30 dX8_commands_33 hout ⟨Nat.le_of_ble_eq_true rfl, Nat.le_of_ble_eq_true rfl, Nat.le_of_ble_eq_true rfl, Nat.le_of_ble_eq_true rfl⟩ hlocks (Nat.le_of_ble_eq_true rfl) (Nat.le_of_ble_eq_true rfl) hm
