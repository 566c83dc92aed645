def f_X9_ends (rf : rc_F) (a0 : Nat) (u1 : Int32) (σ : rc_S) : Option (Int32 × rc_S) :=
  if u1 = 0 then
    rc_bd (f_X9_changed rf a0 (σ a0 17) σ) fun w_5 σ_5 =>
    some (w_5, σ_5)
  else
    rc_lt (rc_up σ a0 13 u1) fun σ_1 =>
    rc_lt (rc_up σ_1 a0 14 (σ_1 a0 16)) fun σ_2 =>
    rc_lt (rc_up σ_2 a0 15 (0 : Int32)) fun σ_3 =>
    rc_bd (f_X9_fails rf a0 (1 : Int32) σ_3) fun w_4 σ_4 =>
    some (w_4, σ_4)
def f_X9_isBarrel (rf : rc_F) (a0 : Nat) (u1 : Int32) (σ : rc_S) : Option (Int32 × rc_S) :=
  rc_bd (f_X9_in rf u1 (0 : Int32) ((σ (rf a0 1) 0) - (1 : Int32)) σ) fun w_1 σ_1 =>
  rc_ck (decide (vp_nar .boolean w_1 = w_1)) <|
  some (w_1, σ_1)
def f_X9_isSommelier (rf : rc_F) (a0 : Nat) (u1 : Int32) (σ : rc_S) : Option (Int32 × rc_S) :=
  rc_bd (f_X9_in rf u1 (0 : Int32) ((σ (rf a0 1) 1) - (1 : Int32)) σ) fun w_1 σ_1 =>
  rc_ck (decide (vp_nar .boolean w_1 = w_1)) <|
  some (w_1, σ_1)
def f_X9_of (rf : rc_F) (a0 : Nat) (u1 : Int32) (u2 : Int32) (σ : rc_S) : Option (Int32 × rc_S) :=
  rc_ck (rc_in (((15 : Int32) + ((6 : Int32) * u1)) + u2) 107) <|
  some ((σ (rf a0 1) (((15 : Int32) + ((6 : Int32) * u1)) + u2).toNatClampNeg), σ)
def f_X9_sets (rf : rc_F) (a0 : Nat) (u1 : Int32) (u2 : Int32) (u3 : Int32) (σ : rc_S) : Option (Unit × rc_S) :=
  rc_ck (rc_in (((15 : Int32) + ((6 : Int32) * u1)) + u2) 107) <|
  rc_lt (rc_up σ (rf a0 1) (((15 : Int32) + ((6 : Int32) * u1)) + u2).toNatClampNeg u3) fun σ_2 =>
  some ((), σ_2)
def f_X9_partOf (rf : rc_F) (u0 : Int32) (u1 : Int32) (σ : rc_S) : Option (Int32 × rc_S) :=
  if u1 = 0 then
    some ((0 : Int32), σ)
  else
    rc_ck (decide (¬ u1 = 0)) <|
    some ((((100 : Int32) * u0) / u1), σ)
def f_X9_part (rf : rc_F) (a0 : Nat) (u1 : Int32) (σ : rc_S) : Option (Int32 × rc_S) :=
  rc_bd (f_X9_of rf a0 u1 (2 : Int32) σ) fun w_1 σ_1 =>
  rc_bd (f_X9_of rf a0 u1 (1 : Int32) σ_1) fun w_2 σ_2 =>
  rc_bd (f_X9_partOf rf w_1 w_2 σ_2) fun w_3 σ_3 =>
  some (w_3, σ_3)
def f_X9_ageOf (rf : rc_F) (a0 : Nat) (u1 : Int32) (σ : rc_S) : Option (Int32 × rc_S) :=
  rc_bd (f_X9_of rf a0 u1 (1 : Int32) σ) fun w_1 σ_1 =>
  if w_1 = 0 then
    some ((0 : Int32), σ_1)
  else
    rc_bd (f_X9_of rf a0 u1 (5 : Int32) σ_1) fun w_2 σ_2 =>
    some (((σ_1 (rf a0 1) 3) - w_2), σ_2)
def f_X9_noteOf (rf : rc_F) (a0 : Nat) (u1 : Int32) (u2 : Int32) (σ : rc_S) : Option (Int32 × rc_S) :=
  rc_bd (f_X9_of rf a0 u1 (1 : Int32) σ) fun w_1 σ_1 =>
  if w_1 = 0 then
    some ((0 : Int32), σ_1)
  else
    rc_bd (f_X9_of rf a0 u1 (4 : Int32) σ_1) fun w_2 σ_2 =>
    rc_bd (f_X9_ageOf rf a0 u1 σ_2) fun w_3 σ_3 =>
    rc_lt (w_2 + ((w_3 + u2) / (2 : Int32))) fun v3_4 =>
    if v3_4 ≤ (9 : Int32) then
      rc_bd (f_X9_part rf a0 u1 σ_3) fun w_5 σ_5 =>
      some (((v3_4 * ((100 : Int32) - w_5)) / (100 : Int32)), σ_5)
    else
      rc_bd (f_X9_part rf a0 u1 σ_3) fun w_6 σ_6 =>
      some ((((9 : Int32) * ((100 : Int32) - w_6)) / (100 : Int32)), σ_6)
def f_X9_notes (rf : rc_F) (a0 : Nat) (u1 : Int32) (u2 : Int32) (σ : rc_S) : Option (Int32 × rc_S) :=
  rc_ck (rc_in ((63 : Int32) + ((2 : Int32) * u1)) 107) <|
  rc_ck (rc_in (((63 : Int32) + ((2 : Int32) * u1)) + (1 : Int32)) 107) <|
  rc_lt ((σ (rf a0 1) ((63 : Int32) + ((2 : Int32) * u1)).toNatClampNeg) + ((2 : Int32) * (σ (rf a0 1) (((63 : Int32) + ((2 : Int32) * u1)) + (1 : Int32)).toNatClampNeg))) fun v3_3 =>
  if u2 ≤ 0 then
    some ((0 : Int32), σ)
  else
    if u2 ≤ ((50 : Int32) - ((5 : Int32) * v3_3)) then
      some ((0 : Int32), σ)
    else
      some ((1 : Int32), σ)
def f_X9_noses_4 (rf : rc_F) (a0 : Nat) (v1 : Int32) (K : Int32 → Int32 → rc_S → Option (Int32 × rc_S)) : Nat → Int32 → Int32 → rc_S → Option (Int32 × rc_S)
  | 0, _, _, _ => none
  | n + 1, v2, v3, σ =>
    if (σ (rf a0 1) 1) ≤ v3 then
      K v2 v3 σ
    else
      rc_bd (f_X9_notes rf a0 v3 v1 σ) fun w_1 σ_1 =>
      if w_1 = 0 then
        rc_lt (v2 ||| (0 : Int32)) fun v2_2 =>
        rc_lt (v3 + 1) fun v3_3 =>
        f_X9_noses_4 rf a0 v1 K n v2_2 v3_3 σ_1
      else
        rc_lt (v2 ||| ((1 : Int32) <<< (v3 &&& 31))) fun v2_4 =>
        rc_lt (v3 + 1) fun v3_5 =>
        f_X9_noses_4 rf a0 v1 K n v2_4 v3_5 σ_1
def f_X9_noses (rf : rc_F) (a0 : Nat) (u1 : Int32) (σ : rc_S) : Option (Int32 × rc_S) :=
  f_X9_noses_4 rf a0 u1 (fun v2_8 v3_9 σ_10 =>
    some (v2_8, σ_10)
  ) rc_fu (0 : Int32) (0 : Int32) σ
def f_X9_hailIn (rf : rc_F) (a0 : Nat) (u1 : Int32) (u2 : Int32) (σ : rc_S) : Option (Int32 × rc_S) :=
  rc_bd (f_X9_part rf a0 u1 σ) fun w_1 σ_1 =>
  rc_lt ((w_1 * u2) / (100 : Int32)) fun v3_2 =>
  rc_bd (f_X9_of rf a0 u1 (1 : Int32) σ_1) fun w_3 σ_3 =>
  rc_bd (f_X9_of rf a0 u1 (2 : Int32) σ_3) fun w_4 σ_4 =>
  rc_lt (u2 - (w_3 - w_4)) fun v4_5 =>
  if v4_5 ≤ v3_2 then
    some (v3_2, σ_4)
  else
    some (v4_5, σ_4)
def f_X9_empties (rf : rc_F) (a0 : Nat) (u1 : Int32) (σ : rc_S) : Option (Unit × rc_S) :=
  rc_bd (f_X9_sets rf a0 u1 (1 : Int32) (0 : Int32) σ) fun _ σ_1 =>
  rc_bd (f_X9_sets rf a0 u1 (2 : Int32) (0 : Int32) σ_1) fun _ σ_2 =>
  rc_bd (f_X9_sets rf a0 u1 (3 : Int32) (-1 : Int32) σ_2) fun _ σ_3 =>
  rc_bd (f_X9_sets rf a0 u1 (4 : Int32) (0 : Int32) σ_3) fun _ σ_4 =>
  rc_bd (f_X9_sets rf a0 u1 (5 : Int32) (0 : Int32) σ_4) fun _ σ_5 =>
  some ((), σ_5)
def f_X9_goes (rf : rc_F) (a0 : Nat) (u1 : Int32) (u2 : Int32) (u3 : Int32) (σ : rc_S) : Option (Unit × rc_S) :=
  rc_bd (f_X9_of rf a0 u1 (1 : Int32) σ) fun w_1 σ_1 =>
  rc_bd (f_X9_sets rf a0 u1 (1 : Int32) (w_1 - u2) σ_1) fun _ σ_2 =>
  rc_bd (f_X9_of rf a0 u1 (2 : Int32) σ_2) fun w_3 σ_3 =>
  rc_bd (f_X9_sets rf a0 u1 (2 : Int32) (w_3 - u3) σ_3) fun _ σ_4 =>
  rc_bd (f_X9_of rf a0 u1 (1 : Int32) σ_4) fun w_5 σ_5 =>
  if w_5 = 0 then
    rc_bd (f_X9_empties rf a0 u1 σ_5) fun _ σ_6 =>
    some ((), σ_6)
  else
    some ((), σ_5)
def f_X9_caught_9 (rf : rc_F) (a0 : Nat) (v1 : Int32) (v2 : Int32) (K : Int32 → Int32 → rc_S → Option (Int32 × rc_S)) : Nat → Int32 → Int32 → rc_S → Option (Int32 × rc_S)
  | 0, _, _, _ => none
  | n + 1, v3, v4, σ =>
    if (σ (rf a0 1) 0) ≤ v4 then
      K v3 v4 σ
    else
      rc_bd (f_X9_of rf a0 v4 (0 : Int32) σ) fun w_2 σ_2 =>
      if w_2 = v1 then
        rc_bd (f_X9_of rf a0 v4 (1 : Int32) σ_2) fun w_4 σ_4 =>
        if w_4 = 0 then
          if v3 ≤ (20 : Int32) then
            rc_lt (v4 + 1) fun v4_6 =>
            f_X9_caught_9 rf a0 v1 v2 K n (0 : Int32) v4_6 σ_4
          else
            rc_lt (v3 - (20 : Int32)) fun v3_7 =>
            rc_lt (v4 + 1) fun v4_8 =>
            f_X9_caught_9 rf a0 v1 v2 K n v3_7 v4_8 σ_4
        else
          rc_lt (v4 + 1) fun v4_5 =>
          f_X9_caught_9 rf a0 v1 v2 K n v3 v4_5 σ_4
      else
        rc_lt (v4 + 1) fun v4_3 =>
        f_X9_caught_9 rf a0 v1 v2 K n v3 v4_3 σ_2
def f_X9_caught (rf : rc_F) (a0 : Nat) (u1 : Int32) (u2 : Int32) (σ : rc_S) : Option (Int32 × rc_S) :=
  rc_lt ((u1 + (1 : Int32)) * u2) fun v3_1 =>
  f_X9_caught_9 rf a0 u1 u2 (fun v3_13 v4_14 σ_15 =>
    some ((((u1 + (1 : Int32)) * u2) - v3_13), σ_15)
  ) rc_fu v3_1 (0 : Int32) σ
def f_X9_fills_9 (rf : rc_F) (a0 : Nat) (v1 : Int32) (v2 : Int32) (K : Int32 → Int32 → rc_S → Option (Unit × rc_S)) : Nat → Int32 → Int32 → rc_S → Option (Unit × rc_S)
  | 0, _, _, _ => none
  | n + 1, v3, v4, σ =>
    if (σ (rf a0 1) 0) ≤ v4 then
      K v3 v4 σ
    else
      if v3 ≤ 0 then
        K v3 v4 σ
      else
        rc_bd (f_X9_of rf a0 v4 (0 : Int32) σ) fun w_2 σ_2 =>
        if w_2 = v1 then
          rc_bd (f_X9_of rf a0 v4 (1 : Int32) σ_2) fun w_4 σ_4 =>
          if w_4 ≤ 0 then
            if v3 ≤ (20 : Int32) then
              rc_bd (f_X9_sets rf a0 v4 (1 : Int32) v3 σ_4) fun _ σ_5 =>
              rc_bd (f_X9_sets rf a0 v4 (3 : Int32) (σ_5 (rf a0 1) 4) σ_5) fun _ σ_6 =>
              rc_ck (rc_in ((11 : Int32) + v1) 107) <|
              rc_bd (f_X9_sets rf a0 v4 (4 : Int32) (σ_6 (rf a0 1) ((11 : Int32) + v1).toNatClampNeg) σ_6) fun _ σ_8 =>
              rc_bd (f_X9_sets rf a0 v4 (5 : Int32) (σ_8 (rf a0 1) 3) σ_8) fun _ σ_9 =>
              rc_lt (v3 - v3) fun v3_10 =>
              rc_lt (v4 + 1) fun v4_11 =>
              f_X9_fills_9 rf a0 v1 v2 K n v3_10 v4_11 σ_9
            else
              rc_bd (f_X9_sets rf a0 v4 (1 : Int32) (20 : Int32) σ_4) fun _ σ_12 =>
              rc_bd (f_X9_sets rf a0 v4 (3 : Int32) (σ_12 (rf a0 1) 4) σ_12) fun _ σ_13 =>
              rc_ck (rc_in ((11 : Int32) + v1) 107) <|
              rc_bd (f_X9_sets rf a0 v4 (4 : Int32) (σ_13 (rf a0 1) ((11 : Int32) + v1).toNatClampNeg) σ_13) fun _ σ_15 =>
              rc_bd (f_X9_sets rf a0 v4 (5 : Int32) (σ_15 (rf a0 1) 3) σ_15) fun _ σ_16 =>
              rc_lt (v3 - (20 : Int32)) fun v3_17 =>
              rc_lt (v4 + 1) fun v4_18 =>
              f_X9_fills_9 rf a0 v1 v2 K n v3_17 v4_18 σ_16
          else
            rc_lt (v4 + 1) fun v4_20 =>
            f_X9_fills_9 rf a0 v1 v2 K n v3 v4_20 σ_4
        else
          rc_lt (v4 + 1) fun v4_3 =>
          f_X9_fills_9 rf a0 v1 v2 K n v3 v4_3 σ_2
def f_X9_fills (rf : rc_F) (a0 : Nat) (u1 : Int32) (u2 : Int32) (σ : rc_S) : Option (Unit × rc_S) :=
  rc_lt ((u1 + (1 : Int32)) * u2) fun v3_1 =>
  f_X9_fills_9 rf a0 u1 u2 (fun v3_25 v4_26 σ_27 =>
    rc_lt (rc_up σ_27 (rf a0 1) 7 ((σ_27 (rf a0 1) 7) + v3_25)) fun σ_28 =>
    rc_ck (rc_in ((11 : Int32) + u1) 107) <|
    rc_lt ((σ_28 (rf a0 1) ((11 : Int32) + u1).toNatClampNeg) - (u2 / (3 : Int32))) fun v4_30 =>
    if 0 ≤ v4_30 then
      rc_ck (rc_in ((11 : Int32) + u1) 107) <|
      rc_lt (rc_up σ_28 (rf a0 1) ((11 : Int32) + u1).toNatClampNeg v4_30) fun σ_32 =>
      some ((), σ_32)
    else
      rc_ck (rc_in ((11 : Int32) + u1) 107) <|
      rc_lt (rc_up σ_28 (rf a0 1) ((11 : Int32) + u1).toNatClampNeg (0 : Int32)) fun σ_34 =>
      some ((), σ_34)
  ) rc_fu v3_1 (0 : Int32) σ
set_option maxHeartbeats 4000000 in
set_option maxRecDepth 100000 in
theorem k_X9_ends (l : Launch) {Y : rc_Y} {sh : Nat → Nat} {rf : rc_F} (hT : rc_T Y sh rf) (a0 : Nat) (u1 : Int32) (h0 : sh a0 = 10) (sz : Nat) (σ σ' : rc_S) (r : Int32) (hm : f_X9_ends rf a0 u1 σ = some (r, σ')) : Met l yX9_ends (Cond.code yX9_ends cX9_ends 2 (some .int) :: rc_big) ({ frames := 1, cells := 0, slots := 0, locals := 22 } : Room) (rc_P Y sh rf σ sz [.ref a0, .int u1]) (va_Qi (fun (r' : Int32) (_ : Unit) => r' = r) (fun _ t => rc_W Y sh rf σ' t.heap) (rc_A sh sz)) 0 0 (rc_A sh sz) := by
  refine Met.ofW (cc := cX9_ends) (maxL := 2) (ret := (some .int)) (by decide +kernel) rfl ?_
  intro p e s m args below meth c s₁ B hml hv
  obtain ⟨rfl, hsz, hW, hK, hE⟩ := hv
  have hx := B.exec
  have hb := B.bytes
  have hr := B.returns
  have hts : ∀ w ∈ rc_big, w.before _ s = true := fun w h => atoms_spec (ws := Cond.code yX9_ends cX9_ends 2 (some .int) :: rc_big) B.pre w (List.mem_cons_of_mem _ h)
  have hown : s.vm.findClass RX9 = some m.cls := findClass_of_methodNamed B.named
  have hlocks := B.notSynchronized
  clear B
  subst hsz
  have hS : va_S (rc_A sh s.heap.size) s.heap s.heap [] := va_S.rf
  have hl := lv_entry ([.ref a0, .int u1]) (n := 2) (Nat.le_of_ble_eq_true rfl)
  rw [lg_entry_eq]
  generalize (lg_sl ([.ref a0, .int u1]) ++ List.replicate (2 - (lg_sl ([.ref a0, .int u1])).length) Slot.unset).toArray = ls at hl ⊢
  have hl : lv_has ls 2 [(0, .ref a0), (1, .int u1)] := hl
  unfold f_X9_ends at hm
  refine lv_iload_n hx hb dX9_ends_0 rfl (lv_at hl 1 rfl) ?_
  refine lv_if_ne (tgt := 13) hx hb dX9_ends_1 (by decide) (fun c_6 => ?_) (fun c_6 => ?_)
  · replace hm := rc_f hm c_6
    refine lv_aload_n hx hb dX9_ends_13 rfl (lv_at hl 0 rfl) ?_
    refine lv_iload_n hx hb dX9_ends_14 rfl (lv_at hl 1 rfl) ?_
    refine rp_10_13 hx hb hts hown hK hW hS h0 tw_7_82 dX9_ends_15 (fun σ_1 H locs eσ hW hS => ?_)
    replace hm := rc_lt_at hm eσ
    clear eσ
    refine lv_aload_n hx hb dX9_ends_18 rfl (lv_at hl 0 rfl) ?_
    refine lv_aload_n hx hb dX9_ends_19 rfl (lv_at hl 0 rfl) ?_
    refine rg_10_16 hx hb hts hown hK hW h0 tw_7_85 dX9_ends_20 ?_
    refine rp_10_14 hx hb hts hown hK hW hS h0 tw_7_83 dX9_ends_23 (fun σ_2 H locs eσ hW hS => ?_)
    replace hm := rc_lt_at hm eσ
    clear eσ
    refine lv_aload_n hx hb dX9_ends_26 rfl (lv_at hl 0 rfl) ?_
    refine lv_iconst (v := 0) hx hb dX9_ends_27 (by decide) ?_
    refine rp_10_15 hx hb hts hown hK hW hS h0 tw_7_84 dX9_ends_28 (fun σ_3 H locs eσ hW hS => ?_)
    replace hm := rc_lt_at hm eσ
    clear eσ
    refine lv_aload_n hx hb dX9_ends_31 rfl (lv_at hl 0 rfl) ?_
    refine lv_iconst (v := 1) hx hb dX9_ends_32 (by decide) ?_
    obtain ⟨w_4, σ_4, hc_4, hm0⟩ := rc_bd_inv hm
    clear hm
    refine rc_ci hS (va_runV (As := [.int (1 : Int32)]) (rest := []) ⟨hx, hb, hml, hown, hts⟩ (k_X9_fails l hT a0 (1 : Int32) h0 H.size _ _ _ hc_4) (cwV 1 hts (rc_gV tw_7_187 tw_7_189 tw_p_26 tw_1_14 tw_7_190) rfl rfl rfl (by decide +kernel) ⟨Nat.le_of_ble_eq_true rfl, Nat.le_of_ble_eq_true rfl⟩) (rc_preV hT hW hK hE hS h0 (by decide) rfl (q := (RX9, TX9, 22)) rfl [.int (1 : Int32)]) rfl rfl hl.1 rfl (lv_room (Nat.le_of_ble_eq_true rfl)) dX9_ends_33 ⟨Nat.le_of_ble_eq_true rfl, Nat.le_of_ble_eq_true rfl⟩) (fun H locs hW hS => ?_)
    have hm := hm0
    clear hm0 hc_4
    exact rc_eiret hx hb hr hlocks hW hS (Nat.le_of_ble_eq_true rfl) (Nat.le_of_ble_eq_true rfl) hm dX9_ends_36
  · replace hm := rc_t hm c_6
    refine lv_aload_n hx hb dX9_ends_4 rfl (lv_at hl 0 rfl) ?_
    refine lv_aload_n hx hb dX9_ends_5 rfl (lv_at hl 0 rfl) ?_
    refine rg_10_17 hx hb hts hown hK hW h0 tw_7_86 dX9_ends_6 ?_
    obtain ⟨w_5, σ_5, hc_5, hm0⟩ := rc_bd_inv hm
    clear hm
    refine rc_ci hS (va_runV (As := [.int (σ a0 17)]) (rest := []) ⟨hx, hb, hml, hown, hts⟩ (k_X9_changed l hT a0 (σ a0 17) h0 s.heap.size _ _ _ hc_5) (cwV 1 hts (rc_gV tw_7_183 tw_7_185 tw_p_25 tw_1_14 tw_7_186) rfl rfl rfl (by decide +kernel) ⟨Nat.le_of_ble_eq_true rfl, Nat.le_of_ble_eq_true rfl⟩) (rc_preV hT hW hK hE hS h0 (by decide) rfl (q := (RX9, TX9, 22)) rfl [.int (σ a0 17)]) rfl rfl hl.1 rfl (lv_room (Nat.le_of_ble_eq_true rfl)) dX9_ends_9 ⟨Nat.le_of_ble_eq_true rfl, Nat.le_of_ble_eq_true rfl⟩) (fun H locs hW hS => ?_)
    have hm := hm0
    clear hm0 hc_5
    exact rc_eiret hx hb hr hlocks hW hS (Nat.le_of_ble_eq_true rfl) (Nat.le_of_ble_eq_true rfl) hm dX9_ends_12
set_option maxHeartbeats 4000000 in
set_option maxRecDepth 100000 in
theorem k_X9_isBarrel (l : Launch) {Y : rc_Y} {sh : Nat → Nat} {rf : rc_F} (hT : rc_T Y sh rf) (a0 : Nat) (u1 : Int32) (h0 : sh a0 = 10) (sz : Nat) (σ σ' : rc_S) (r : Int32) (hm : f_X9_isBarrel rf a0 u1 σ = some (r, σ')) : Met l yX9_isBarrel (Cond.code yX9_isBarrel cX9_isBarrel 2 (some .boolean) :: rc_big) ({ frames := 1, cells := 0, slots := 0, locals := 22 } : Room) (rc_P Y sh rf σ sz [.ref a0, .int u1]) (va_Qi (fun (r' : Int32) (_ : Unit) => r' = r) (fun _ t => rc_W Y sh rf σ' t.heap) (rc_A sh sz)) 0 0 (rc_A sh sz) := by
  refine Met.ofW (cc := cX9_isBarrel) (maxL := 2) (ret := (some .boolean)) (by decide +kernel) rfl ?_
  intro p e s m args below meth c s₁ B hml hv
  obtain ⟨rfl, hsz, hW, hK, hE⟩ := hv
  have hx := B.exec
  have hb := B.bytes
  have hr := B.returns
  have hts : ∀ w ∈ rc_big, w.before _ s = true := fun w h => atoms_spec (ws := Cond.code yX9_isBarrel cX9_isBarrel 2 (some .boolean) :: rc_big) B.pre w (List.mem_cons_of_mem _ h)
  have hown : s.vm.findClass RX9 = some m.cls := findClass_of_methodNamed B.named
  have hlocks := B.notSynchronized
  clear B
  subst hsz
  have hS : va_S (rc_A sh s.heap.size) s.heap s.heap [] := va_S.rf
  have hl := lv_entry ([.ref a0, .int u1]) (n := 2) (Nat.le_of_ble_eq_true rfl)
  rw [lg_entry_eq]
  generalize (lg_sl ([.ref a0, .int u1]) ++ List.replicate (2 - (lg_sl ([.ref a0, .int u1])).length) Slot.unset).toArray = ls at hl ⊢
  have hl : lv_has ls 2 [(0, .ref a0), (1, .int u1)] := hl
  unfold f_X9_isBarrel at hm
  refine lv_iload_n hx hb dX9_isBarrel_0 rfl (lv_at hl 1 rfl) ?_
  refine lv_iconst (v := 0) hx hb dX9_isBarrel_1 (by decide) ?_
  refine lv_aload_n hx hb dX9_isBarrel_2 rfl (lv_at hl 0 rfl) ?_
  refine rg_10_1 hx hb hts hown hK hW h0 tw_7_70 dX9_isBarrel_3 ?_
  refine lv_iconst (v := 0) hx hb dX9_isBarrel_6 (by decide) ?_
  refine rc_ialdj (j := 0) hx hb hK hW (rc_t_10_1 hT h0) (by decide) rfl (rc_inD (by decide)) (by decide) dX9_isBarrel_7 ?_
  refine lv_iconst (v := 1) hx hb dX9_isBarrel_8 (by decide) ?_
  refine lv_isub hx hb dX9_isBarrel_9 ?_
  obtain ⟨w_1, σ_1, hc_1, hm0⟩ := rc_bd_inv hm
  clear hm
  refine rc_ci hS (va_runS (As := [.int u1, .int (0 : Int32), .int ((σ (rf a0 1) 0) - (1 : Int32))]) (rest := []) ⟨hx, hb, hml, hown, hts⟩ (k_X9_in l hT u1 (0 : Int32) ((σ (rf a0 1) 0) - (1 : Int32))  s.heap.size _ _ _ hc_1) (va_cwS 3 hts (rc_gS tw_7_152 tw_7_153 tw_1_14 tw_7_154) rfl rfl rfl (by decide +kernel) ⟨Nat.le_of_ble_eq_true rfl, Nat.le_of_ble_eq_true rfl⟩) (rc_preS hT hW hK hE hS [.int u1, .int (0 : Int32), .int ((σ (rf a0 1) 0) - (1 : Int32))]) rfl rfl hl.1 rfl (lv_room (Nat.le_of_ble_eq_true rfl)) dX9_isBarrel_10 ⟨Nat.le_of_ble_eq_true rfl, Nat.le_of_ble_eq_true rfl⟩) (fun H locs hW hS => ?_)
  have hm := hm0
  clear hm0 hc_1
  have hn := (rc_dc hm).1
  replace hm := (rc_dc hm).2
  exact rc_ezret hx hb hr hlocks hW hS (Nat.le_of_ble_eq_true rfl) (Nat.le_of_ble_eq_true rfl) (rc_narz hn) hm dX9_isBarrel_13
set_option maxHeartbeats 4000000 in
set_option maxRecDepth 100000 in
theorem k_X9_isSommelier (l : Launch) {Y : rc_Y} {sh : Nat → Nat} {rf : rc_F} (hT : rc_T Y sh rf) (a0 : Nat) (u1 : Int32) (h0 : sh a0 = 10) (sz : Nat) (σ σ' : rc_S) (r : Int32) (hm : f_X9_isSommelier rf a0 u1 σ = some (r, σ')) : Met l yX9_isSommelier (Cond.code yX9_isSommelier cX9_isSommelier 2 (some .boolean) :: rc_big) ({ frames := 1, cells := 0, slots := 0, locals := 22 } : Room) (rc_P Y sh rf σ sz [.ref a0, .int u1]) (va_Qi (fun (r' : Int32) (_ : Unit) => r' = r) (fun _ t => rc_W Y sh rf σ' t.heap) (rc_A sh sz)) 0 0 (rc_A sh sz) := by
  refine Met.ofW (cc := cX9_isSommelier) (maxL := 2) (ret := (some .boolean)) (by decide +kernel) rfl ?_
  intro p e s m args below meth c s₁ B hml hv
  obtain ⟨rfl, hsz, hW, hK, hE⟩ := hv
  have hx := B.exec
  have hb := B.bytes
  have hr := B.returns
  have hts : ∀ w ∈ rc_big, w.before _ s = true := fun w h => atoms_spec (ws := Cond.code yX9_isSommelier cX9_isSommelier 2 (some .boolean) :: rc_big) B.pre w (List.mem_cons_of_mem _ h)
  have hown : s.vm.findClass RX9 = some m.cls := findClass_of_methodNamed B.named
  have hlocks := B.notSynchronized
  clear B
  subst hsz
  have hS : va_S (rc_A sh s.heap.size) s.heap s.heap [] := va_S.rf
  have hl := lv_entry ([.ref a0, .int u1]) (n := 2) (Nat.le_of_ble_eq_true rfl)
  rw [lg_entry_eq]
  generalize (lg_sl ([.ref a0, .int u1]) ++ List.replicate (2 - (lg_sl ([.ref a0, .int u1])).length) Slot.unset).toArray = ls at hl ⊢
  have hl : lv_has ls 2 [(0, .ref a0), (1, .int u1)] := hl
  unfold f_X9_isSommelier at hm
  refine lv_iload_n hx hb dX9_isSommelier_0 rfl (lv_at hl 1 rfl) ?_
  refine lv_iconst (v := 0) hx hb dX9_isSommelier_1 (by decide) ?_
  refine lv_aload_n hx hb dX9_isSommelier_2 rfl (lv_at hl 0 rfl) ?_
  refine rg_10_1 hx hb hts hown hK hW h0 tw_7_70 dX9_isSommelier_3 ?_
  refine lv_iconst (v := 1) hx hb dX9_isSommelier_6 (by decide) ?_
  refine rc_ialdj (j := 1) hx hb hK hW (rc_t_10_1 hT h0) (by decide) rfl (rc_inD (by decide)) (by decide) dX9_isSommelier_7 ?_
  refine lv_iconst (v := 1) hx hb dX9_isSommelier_8 (by decide) ?_
  refine lv_isub hx hb dX9_isSommelier_9 ?_
  obtain ⟨w_1, σ_1, hc_1, hm0⟩ := rc_bd_inv hm
  clear hm
  refine rc_ci hS (va_runS (As := [.int u1, .int (0 : Int32), .int ((σ (rf a0 1) 1) - (1 : Int32))]) (rest := []) ⟨hx, hb, hml, hown, hts⟩ (k_X9_in l hT u1 (0 : Int32) ((σ (rf a0 1) 1) - (1 : Int32))  s.heap.size _ _ _ hc_1) (va_cwS 3 hts (rc_gS tw_7_152 tw_7_153 tw_1_14 tw_7_154) rfl rfl rfl (by decide +kernel) ⟨Nat.le_of_ble_eq_true rfl, Nat.le_of_ble_eq_true rfl⟩) (rc_preS hT hW hK hE hS [.int u1, .int (0 : Int32), .int ((σ (rf a0 1) 1) - (1 : Int32))]) rfl rfl hl.1 rfl (lv_room (Nat.le_of_ble_eq_true rfl)) dX9_isSommelier_10 ⟨Nat.le_of_ble_eq_true rfl, Nat.le_of_ble_eq_true rfl⟩) (fun H locs hW hS => ?_)
  have hm := hm0
  clear hm0 hc_1
  have hn := (rc_dc hm).1
  replace hm := (rc_dc hm).2
  exact rc_ezret hx hb hr hlocks hW hS (Nat.le_of_ble_eq_true rfl) (Nat.le_of_ble_eq_true rfl) (rc_narz hn) hm dX9_isSommelier_13
set_option maxHeartbeats 4000000 in
set_option maxRecDepth 100000 in
theorem k_X9_of (l : Launch) {Y : rc_Y} {sh : Nat → Nat} {rf : rc_F} (hT : rc_T Y sh rf) (a0 : Nat) (u1 : Int32) (u2 : Int32) (h0 : sh a0 = 10) (sz : Nat) (σ σ' : rc_S) (r : Int32) (hm : f_X9_of rf a0 u1 u2 σ = some (r, σ')) : Met l yX9_of (Cond.code yX9_of cX9_of 3 (some .int) :: rc_big) ({ frames := 0, cells := 0, slots := 0, locals := 0 } : Room) (rc_P Y sh rf σ sz [.ref a0, .int u1, .int u2]) (va_Qi (fun (r' : Int32) (_ : Unit) => r' = r) (fun _ t => rc_W Y sh rf σ' t.heap) (rc_A sh sz)) 0 0 (rc_A sh sz) := by
  refine Met.ofW (cc := cX9_of) (maxL := 3) (ret := (some .int)) (by decide +kernel) rfl ?_
  intro p e s m args below meth c s₁ B hml hv
  obtain ⟨rfl, hsz, hW, hK, hE⟩ := hv
  have hx := B.exec
  have hb := B.bytes
  have hr := B.returns
  have hts : ∀ w ∈ rc_big, w.before _ s = true := fun w h => atoms_spec (ws := Cond.code yX9_of cX9_of 3 (some .int) :: rc_big) B.pre w (List.mem_cons_of_mem _ h)
  have hown : s.vm.findClass RX9 = some m.cls := findClass_of_methodNamed B.named
  have hlocks := B.notSynchronized
  clear B
  subst hsz
  have hS : va_S (rc_A sh s.heap.size) s.heap s.heap [] := va_S.rf
  have hl := lv_entry ([.ref a0, .int u1, .int u2]) (n := 3) (Nat.le_of_ble_eq_true rfl)
  rw [lg_entry_eq]
  generalize (lg_sl ([.ref a0, .int u1, .int u2]) ++ List.replicate (3 - (lg_sl ([.ref a0, .int u1, .int u2])).length) Slot.unset).toArray = ls at hl ⊢
  have hl : lv_has ls 3 [(0, .ref a0), (1, .int u1), (2, .int u2)] := hl
  unfold f_X9_of at hm
  refine lv_aload_n hx hb dX9_of_0 rfl (lv_at hl 0 rfl) ?_
  refine rg_10_1 hx hb hts hown hK hW h0 tw_7_70 dX9_of_1 ?_
  refine lv_bipush (v := 15) hx hb dX9_of_4 (by decide) ?_
  refine lv_bipush (v := 6) hx hb dX9_of_6 (by decide) ?_
  refine lv_iload_n hx hb dX9_of_8 rfl (lv_at hl 1 rfl) ?_
  refine lv_imul hx hb dX9_of_9 ?_
  refine lv_iadd hx hb dX9_of_10 ?_
  refine lv_iload_n hx hb dX9_of_11 rfl (lv_at hl 2 rfl) ?_
  refine lv_iadd hx hb dX9_of_12 ?_
  have hi_1 := (rc_ix hm).1
  replace hm := (rc_ix hm).2
  refine rc_ialdj (j := (((15 : Int32) + ((6 : Int32) * u1)) + u2).toNatClampNeg) hx hb hK hW (rc_t_10_1 hT h0) (by decide) rfl hi_1 rfl dX9_of_13 ?_
  exact rc_eiret hx hb hr hlocks hW hS (Nat.le_of_ble_eq_true rfl) (Nat.le_of_ble_eq_true rfl) hm dX9_of_14
set_option maxHeartbeats 4000000 in
set_option maxRecDepth 100000 in
theorem k_X9_sets (l : Launch) {Y : rc_Y} {sh : Nat → Nat} {rf : rc_F} (hT : rc_T Y sh rf) (a0 : Nat) (u1 : Int32) (u2 : Int32) (u3 : Int32) (h0 : sh a0 = 10) (sz : Nat) (σ σ' : rc_S) (r : Unit) (hm : f_X9_sets rf a0 u1 u2 u3 σ = some (r, σ')) : Met l yX9_sets (Cond.code yX9_sets cX9_sets 4 none :: rc_big) ({ frames := 0, cells := 0, slots := 0, locals := 0 } : Room) (rc_P Y sh rf σ sz [.ref a0, .int u1, .int u2, .int u3]) (va_Qv (fun (_ : Unit) => True) (fun _ t => rc_W Y sh rf σ' t.heap) (rc_A sh sz)) 0 0 (rc_A sh sz) := by
  refine Met.ofW (cc := cX9_sets) (maxL := 4) (ret := none) (by decide +kernel) rfl ?_
  intro p e s m args below meth c s₁ B hml hv
  obtain ⟨rfl, hsz, hW, hK, hE⟩ := hv
  have hx := B.exec
  have hb := B.bytes
  have hr := B.returns
  have hts : ∀ w ∈ rc_big, w.before _ s = true := fun w h => atoms_spec (ws := Cond.code yX9_sets cX9_sets 4 none :: rc_big) B.pre w (List.mem_cons_of_mem _ h)
  have hown : s.vm.findClass RX9 = some m.cls := findClass_of_methodNamed B.named
  have hlocks := B.notSynchronized
  clear B
  subst hsz
  have hS : va_S (rc_A sh s.heap.size) s.heap s.heap [] := va_S.rf
  have hl := lv_entry ([.ref a0, .int u1, .int u2, .int u3]) (n := 4) (Nat.le_of_ble_eq_true rfl)
  rw [lg_entry_eq]
  generalize (lg_sl ([.ref a0, .int u1, .int u2, .int u3]) ++ List.replicate (4 - (lg_sl ([.ref a0, .int u1, .int u2, .int u3])).length) Slot.unset).toArray = ls at hl ⊢
  have hl : lv_has ls 4 [(0, .ref a0), (1, .int u1), (2, .int u2), (3, .int u3)] := hl
  unfold f_X9_sets at hm
  refine lv_aload_n hx hb dX9_sets_0 rfl (lv_at hl 0 rfl) ?_
  refine rg_10_1 hx hb hts hown hK hW h0 tw_7_70 dX9_sets_1 ?_
  refine lv_bipush (v := 15) hx hb dX9_sets_4 (by decide) ?_
  refine lv_bipush (v := 6) hx hb dX9_sets_6 (by decide) ?_
  refine lv_iload_n hx hb dX9_sets_8 rfl (lv_at hl 1 rfl) ?_
  refine lv_imul hx hb dX9_sets_9 ?_
  refine lv_iadd hx hb dX9_sets_10 ?_
  refine lv_iload_n hx hb dX9_sets_11 rfl (lv_at hl 2 rfl) ?_
  refine lv_iadd hx hb dX9_sets_12 ?_
  refine lv_iload_n hx hb dX9_sets_13 rfl (lv_at hl 3 rfl) ?_
  have hi_1 := (rc_ix hm).1
  replace hm := (rc_ix hm).2
  refine rc_iastj (j := (((15 : Int32) + ((6 : Int32) * u1)) + u2).toNatClampNeg) hx hb hK hW hS (rc_t_10_1 hT h0) (by decide) (fun _ => rfl) hi_1 rfl dX9_sets_14 (fun σ_2 H locs eσ hW hS => ?_)
  replace hm := rc_lt_at hm eσ
  clear eσ
  exact rc_evret hx hb hr hlocks hW hS (Nat.le_of_ble_eq_true rfl) (Nat.le_of_ble_eq_true rfl) hm dX9_sets_15
set_option maxHeartbeats 4000000 in
set_option maxRecDepth 100000 in
theorem k_X9_partOf (l : Launch) {Y : rc_Y} {sh : Nat → Nat} {rf : rc_F} (hT : rc_T Y sh rf) (u0 : Int32) (u1 : Int32) (sz : Nat) (σ σ' : rc_S) (r : Int32) (hm : f_X9_partOf rf u0 u1 σ = some (r, σ')) : Met l yX9_partOf (Cond.code yX9_partOf cX9_partOf 2 (some .int) :: rc_big) ({ frames := 0, cells := 0, slots := 0, locals := 0 } : Room) (rc_P Y sh rf σ sz [.int u0, .int u1]) (va_Qi (fun (r' : Int32) (_ : Unit) => r' = r) (fun _ t => rc_W Y sh rf σ' t.heap) (rc_A sh sz)) 0 0 (rc_A sh sz) := by
  refine Met.ofW (cc := cX9_partOf) (maxL := 2) (ret := (some .int)) (by decide +kernel) rfl ?_
  intro p e s m args below meth c s₁ B hml hv
  obtain ⟨rfl, hsz, hW, hK, hE⟩ := hv
  have hx := B.exec
  have hb := B.bytes
  have hr := B.returns
  have hts : ∀ w ∈ rc_big, w.before _ s = true := fun w h => atoms_spec (ws := Cond.code yX9_partOf cX9_partOf 2 (some .int) :: rc_big) B.pre w (List.mem_cons_of_mem _ h)
  have hown : s.vm.findClass RX9 = some m.cls := findClass_of_methodNamed B.named
  have hlocks := B.notSynchronized
  clear B
  subst hsz
  have hS : va_S (rc_A sh s.heap.size) s.heap s.heap [] := va_S.rf
  have hl := lv_entry ([.int u0, .int u1]) (n := 2) (Nat.le_of_ble_eq_true rfl)
  rw [lg_entry_eq]
  generalize (lg_sl ([.int u0, .int u1]) ++ List.replicate (2 - (lg_sl ([.int u0, .int u1])).length) Slot.unset).toArray = ls at hl ⊢
  have hl : lv_has ls 2 [(0, .int u0), (1, .int u1)] := hl
  unfold f_X9_partOf at hm
  refine lv_iload_n hx hb dX9_partOf_0 rfl (lv_at hl 1 rfl) ?_
  refine lv_if_ne (tgt := 8) hx hb dX9_partOf_1 (by decide) (fun c_2 => ?_) (fun c_2 => ?_)
  · replace hm := rc_f hm c_2
    refine lv_bipush (v := 100) hx hb dX9_partOf_8 (by decide) ?_
    refine lv_iload_n hx hb dX9_partOf_10 rfl (lv_at hl 0 rfl) ?_
    refine lv_imul hx hb dX9_partOf_11 ?_
    refine lv_iload_n hx hb dX9_partOf_12 rfl (lv_at hl 1 rfl) ?_
    have hz_1 := (rc_nz hm).1
    replace hm := (rc_nz hm).2
    refine lv_idiv hx hb dX9_partOf_13 hz_1 ?_
    exact rc_eiret hx hb hr hlocks hW hS (Nat.le_of_ble_eq_true rfl) (Nat.le_of_ble_eq_true rfl) hm dX9_partOf_14
  · replace hm := rc_t hm c_2
    refine lv_iconst (v := 0) hx hb dX9_partOf_4 (by decide) ?_
    refine lv_goto (tgt := 14) hx hb dX9_partOf_5 (by decide) ?_
    exact rc_eiret hx hb hr hlocks hW hS (Nat.le_of_ble_eq_true rfl) (Nat.le_of_ble_eq_true rfl) hm dX9_partOf_14
set_option maxHeartbeats 4000000 in
set_option maxRecDepth 100000 in
theorem k_X9_part (l : Launch) {Y : rc_Y} {sh : Nat → Nat} {rf : rc_F} (hT : rc_T Y sh rf) (a0 : Nat) (u1 : Int32) (h0 : sh a0 = 10) (sz : Nat) (σ σ' : rc_S) (r : Int32) (hm : f_X9_part rf a0 u1 σ = some (r, σ')) : Met l yX9_part (Cond.code yX9_part cX9_part 2 (some .int) :: rc_big) ({ frames := 1, cells := 0, slots := 0, locals := 22 } : Room) (rc_P Y sh rf σ sz [.ref a0, .int u1]) (va_Qi (fun (r' : Int32) (_ : Unit) => r' = r) (fun _ t => rc_W Y sh rf σ' t.heap) (rc_A sh sz)) 0 0 (rc_A sh sz) := by
  refine Met.ofW (cc := cX9_part) (maxL := 2) (ret := (some .int)) (by decide +kernel) rfl ?_
  intro p e s m args below meth c s₁ B hml hv
  obtain ⟨rfl, hsz, hW, hK, hE⟩ := hv
  have hx := B.exec
  have hb := B.bytes
  have hr := B.returns
  have hts : ∀ w ∈ rc_big, w.before _ s = true := fun w h => atoms_spec (ws := Cond.code yX9_part cX9_part 2 (some .int) :: rc_big) B.pre w (List.mem_cons_of_mem _ h)
  have hown : s.vm.findClass RX9 = some m.cls := findClass_of_methodNamed B.named
  have hlocks := B.notSynchronized
  clear B
  subst hsz
  have hS : va_S (rc_A sh s.heap.size) s.heap s.heap [] := va_S.rf
  have hl := lv_entry ([.ref a0, .int u1]) (n := 2) (Nat.le_of_ble_eq_true rfl)
  rw [lg_entry_eq]
  generalize (lg_sl ([.ref a0, .int u1]) ++ List.replicate (2 - (lg_sl ([.ref a0, .int u1])).length) Slot.unset).toArray = ls at hl ⊢
  have hl : lv_has ls 2 [(0, .ref a0), (1, .int u1)] := hl
  unfold f_X9_part at hm
  refine lv_aload_n hx hb dX9_part_0 rfl (lv_at hl 0 rfl) ?_
  refine lv_iload_n hx hb dX9_part_1 rfl (lv_at hl 1 rfl) ?_
  refine lv_iconst (v := 2) hx hb dX9_part_2 (by decide) ?_
  obtain ⟨w_1, σ_1, hc_1, hm0⟩ := rc_bd_inv hm
  clear hm
  refine rc_ci hS (va_runV (As := [.int u1, .int (2 : Int32)]) (rest := []) ⟨hx, hb, hml, hown, hts⟩ (k_X9_of l hT a0 u1 (2 : Int32) h0 s.heap.size _ _ _ hc_1) (cwV 2 hts (rc_gV tw_7_163 tw_7_165 tw_p_20 tw_1_14 tw_7_166) rfl rfl rfl (by decide +kernel) ⟨Nat.le_of_ble_eq_true rfl, Nat.le_of_ble_eq_true rfl⟩) (rc_preV hT hW hK hE hS h0 (by decide) rfl (q := (RX9, TX9, 22)) rfl [.int u1, .int (2 : Int32)]) rfl rfl hl.1 rfl (lv_room (Nat.le_of_ble_eq_true rfl)) dX9_part_3 ⟨Nat.le_of_ble_eq_true rfl, Nat.le_of_ble_eq_true rfl⟩) (fun H locs hW hS => ?_)
  have hm := hm0
  clear hm0 hc_1
  refine lv_aload_n hx hb dX9_part_6 rfl (lv_at hl 0 rfl) ?_
  refine lv_iload_n hx hb dX9_part_7 rfl (lv_at hl 1 rfl) ?_
  refine lv_iconst (v := 1) hx hb dX9_part_8 (by decide) ?_
  obtain ⟨w_2, σ_2, hc_2, hm0⟩ := rc_bd_inv hm
  clear hm
  refine rc_ci hS (va_runV (As := [.int u1, .int (1 : Int32)]) (rest := [.int w_1]) ⟨hx, hb, hml, hown, hts⟩ (k_X9_of l hT a0 u1 (1 : Int32) h0 H.size _ _ _ hc_2) (cwV 2 hts (rc_gV tw_7_163 tw_7_165 tw_p_20 tw_1_14 tw_7_166) rfl rfl rfl (by decide +kernel) ⟨Nat.le_of_ble_eq_true rfl, Nat.le_of_ble_eq_true rfl⟩) (rc_preV hT hW hK hE hS h0 (by decide) rfl (q := (RX9, TX9, 22)) rfl [.int u1, .int (1 : Int32)]) rfl rfl hl.1 rfl (lv_room (Nat.le_of_ble_eq_true rfl)) dX9_part_9 ⟨Nat.le_of_ble_eq_true rfl, Nat.le_of_ble_eq_true rfl⟩) (fun H locs hW hS => ?_)
  have hm := hm0
  clear hm0 hc_2
  obtain ⟨w_3, σ_3, hc_3, hm0⟩ := rc_bd_inv hm
  clear hm
  refine rc_ci hS (va_runS (As := [.int w_1, .int w_2]) (rest := []) ⟨hx, hb, hml, hown, hts⟩ (k_X9_partOf l hT w_1 w_2  H.size _ _ _ hc_3) (va_cwS 2 hts (rc_gS tw_7_231 tw_7_232 tw_1_14 tw_7_233) rfl rfl rfl (by decide +kernel) ⟨Nat.le_of_ble_eq_true rfl, Nat.le_of_ble_eq_true rfl⟩) (rc_preS hT hW hK hE hS [.int w_1, .int w_2]) rfl rfl hl.1 rfl (lv_room (Nat.le_of_ble_eq_true rfl)) dX9_part_12 ⟨Nat.le_of_ble_eq_true rfl, Nat.le_of_ble_eq_true rfl⟩) (fun H locs hW hS => ?_)
  have hm := hm0
  clear hm0 hc_3
  exact rc_eiret hx hb hr hlocks hW hS (Nat.le_of_ble_eq_true rfl) (Nat.le_of_ble_eq_true rfl) hm dX9_part_15
set_option maxHeartbeats 4000000 in
set_option maxRecDepth 100000 in
theorem k_X9_ageOf (l : Launch) {Y : rc_Y} {sh : Nat → Nat} {rf : rc_F} (hT : rc_T Y sh rf) (a0 : Nat) (u1 : Int32) (h0 : sh a0 = 10) (sz : Nat) (σ σ' : rc_S) (r : Int32) (hm : f_X9_ageOf rf a0 u1 σ = some (r, σ')) : Met l yX9_ageOf (Cond.code yX9_ageOf cX9_ageOf 2 (some .int) :: rc_big) ({ frames := 1, cells := 0, slots := 0, locals := 22 } : Room) (rc_P Y sh rf σ sz [.ref a0, .int u1]) (va_Qi (fun (r' : Int32) (_ : Unit) => r' = r) (fun _ t => rc_W Y sh rf σ' t.heap) (rc_A sh sz)) 0 0 (rc_A sh sz) := by
  refine Met.ofW (cc := cX9_ageOf) (maxL := 2) (ret := (some .int)) (by decide +kernel) rfl ?_
  intro p e s m args below meth c s₁ B hml hv
  obtain ⟨rfl, hsz, hW, hK, hE⟩ := hv
  have hx := B.exec
  have hb := B.bytes
  have hr := B.returns
  have hts : ∀ w ∈ rc_big, w.before _ s = true := fun w h => atoms_spec (ws := Cond.code yX9_ageOf cX9_ageOf 2 (some .int) :: rc_big) B.pre w (List.mem_cons_of_mem _ h)
  have hown : s.vm.findClass RX9 = some m.cls := findClass_of_methodNamed B.named
  have hlocks := B.notSynchronized
  clear B
  subst hsz
  have hS : va_S (rc_A sh s.heap.size) s.heap s.heap [] := va_S.rf
  have hl := lv_entry ([.ref a0, .int u1]) (n := 2) (Nat.le_of_ble_eq_true rfl)
  rw [lg_entry_eq]
  generalize (lg_sl ([.ref a0, .int u1]) ++ List.replicate (2 - (lg_sl ([.ref a0, .int u1])).length) Slot.unset).toArray = ls at hl ⊢
  have hl : lv_has ls 2 [(0, .ref a0), (1, .int u1)] := hl
  unfold f_X9_ageOf at hm
  refine lv_aload_n hx hb dX9_ageOf_0 rfl (lv_at hl 0 rfl) ?_
  refine lv_iload_n hx hb dX9_ageOf_1 rfl (lv_at hl 1 rfl) ?_
  refine lv_iconst (v := 1) hx hb dX9_ageOf_2 (by decide) ?_
  obtain ⟨w_1, σ_1, hc_1, hm0⟩ := rc_bd_inv hm
  clear hm
  refine rc_ci hS (va_runV (As := [.int u1, .int (1 : Int32)]) (rest := []) ⟨hx, hb, hml, hown, hts⟩ (k_X9_of l hT a0 u1 (1 : Int32) h0 s.heap.size _ _ _ hc_1) (cwV 2 hts (rc_gV tw_7_163 tw_7_165 tw_p_20 tw_1_14 tw_7_166) rfl rfl rfl (by decide +kernel) ⟨Nat.le_of_ble_eq_true rfl, Nat.le_of_ble_eq_true rfl⟩) (rc_preV hT hW hK hE hS h0 (by decide) rfl (q := (RX9, TX9, 22)) rfl [.int u1, .int (1 : Int32)]) rfl rfl hl.1 rfl (lv_room (Nat.le_of_ble_eq_true rfl)) dX9_ageOf_3 ⟨Nat.le_of_ble_eq_true rfl, Nat.le_of_ble_eq_true rfl⟩) (fun H locs hW hS => ?_)
  have hm := hm0
  clear hm0 hc_1
  refine lv_if_ne (tgt := 13) hx hb dX9_ageOf_6 (by decide) (fun c_3 => ?_) (fun c_3 => ?_)
  · replace hm := rc_f hm c_3
    refine lv_aload_n hx hb dX9_ageOf_13 rfl (lv_at hl 0 rfl) ?_
    refine rg_10_1 hx hb hts hown hK hW h0 tw_7_70 dX9_ageOf_14 ?_
    refine lv_iconst (v := 3) hx hb dX9_ageOf_17 (by decide) ?_
    refine rc_ialdj (j := 3) hx hb hK hW (rc_t_10_1 hT h0) (by decide) rfl (rc_inD (by decide)) (by decide) dX9_ageOf_18 ?_
    refine lv_aload_n hx hb dX9_ageOf_19 rfl (lv_at hl 0 rfl) ?_
    refine lv_iload_n hx hb dX9_ageOf_20 rfl (lv_at hl 1 rfl) ?_
    refine lv_iconst (v := 5) hx hb dX9_ageOf_21 (by decide) ?_
    obtain ⟨w_2, σ_2, hc_2, hm0⟩ := rc_bd_inv hm
    clear hm
    refine rc_ci hS (va_runV (As := [.int u1, .int (5 : Int32)]) (rest := [.int (σ_1 (rf a0 1) 3)]) ⟨hx, hb, hml, hown, hts⟩ (k_X9_of l hT a0 u1 (5 : Int32) h0 H.size _ _ _ hc_2) (cwV 2 hts (rc_gV tw_7_163 tw_7_165 tw_p_20 tw_1_14 tw_7_166) rfl rfl rfl (by decide +kernel) ⟨Nat.le_of_ble_eq_true rfl, Nat.le_of_ble_eq_true rfl⟩) (rc_preV hT hW hK hE hS h0 (by decide) rfl (q := (RX9, TX9, 22)) rfl [.int u1, .int (5 : Int32)]) rfl rfl hl.1 rfl (lv_room (Nat.le_of_ble_eq_true rfl)) dX9_ageOf_22 ⟨Nat.le_of_ble_eq_true rfl, Nat.le_of_ble_eq_true rfl⟩) (fun H locs hW hS => ?_)
    have hm := hm0
    clear hm0 hc_2
    refine lv_isub hx hb dX9_ageOf_25 ?_
    exact rc_eiret hx hb hr hlocks hW hS (Nat.le_of_ble_eq_true rfl) (Nat.le_of_ble_eq_true rfl) hm dX9_ageOf_26
  · replace hm := rc_t hm c_3
    refine lv_iconst (v := 0) hx hb dX9_ageOf_9 (by decide) ?_
    refine lv_goto (tgt := 26) hx hb dX9_ageOf_10 (by decide) ?_
    exact rc_eiret hx hb hr hlocks hW hS (Nat.le_of_ble_eq_true rfl) (Nat.le_of_ble_eq_true rfl) hm dX9_ageOf_26
set_option maxHeartbeats 4000000 in
set_option maxRecDepth 100000 in
theorem k_X9_noteOf (l : Launch) {Y : rc_Y} {sh : Nat → Nat} {rf : rc_F} (hT : rc_T Y sh rf) (a0 : Nat) (u1 : Int32) (u2 : Int32) (h0 : sh a0 = 10) (sz : Nat) (σ σ' : rc_S) (r : Int32) (hm : f_X9_noteOf rf a0 u1 u2 σ = some (r, σ')) : Met l yX9_noteOf (Cond.code yX9_noteOf cX9_noteOf 4 (some .int) :: rc_big) ({ frames := 2, cells := 0, slots := 0, locals := 43 } : Room) (rc_P Y sh rf σ sz [.ref a0, .int u1, .int u2]) (va_Qi (fun (r' : Int32) (_ : Unit) => r' = r) (fun _ t => rc_W Y sh rf σ' t.heap) (rc_A sh sz)) 0 0 (rc_A sh sz) := by
  refine Met.ofW (cc := cX9_noteOf) (maxL := 4) (ret := (some .int)) (by decide +kernel) rfl ?_
  intro p e s m args below meth c s₁ B hml hv
  obtain ⟨rfl, hsz, hW, hK, hE⟩ := hv
  have hx := B.exec
  have hb := B.bytes
  have hr := B.returns
  have hts : ∀ w ∈ rc_big, w.before _ s = true := fun w h => atoms_spec (ws := Cond.code yX9_noteOf cX9_noteOf 4 (some .int) :: rc_big) B.pre w (List.mem_cons_of_mem _ h)
  have hown : s.vm.findClass RX9 = some m.cls := findClass_of_methodNamed B.named
  have hlocks := B.notSynchronized
  clear B
  subst hsz
  have hS : va_S (rc_A sh s.heap.size) s.heap s.heap [] := va_S.rf
  have hl := lv_entry ([.ref a0, .int u1, .int u2]) (n := 4) (Nat.le_of_ble_eq_true rfl)
  rw [lg_entry_eq]
  generalize (lg_sl ([.ref a0, .int u1, .int u2]) ++ List.replicate (4 - (lg_sl ([.ref a0, .int u1, .int u2])).length) Slot.unset).toArray = ls at hl ⊢
  have hl : lv_has ls 4 [(0, .ref a0), (1, .int u1), (2, .int u2)] := hl
  unfold f_X9_noteOf at hm
  refine lv_aload_n hx hb dX9_noteOf_0 rfl (lv_at hl 0 rfl) ?_
  refine lv_iload_n hx hb dX9_noteOf_1 rfl (lv_at hl 1 rfl) ?_
  refine lv_iconst (v := 1) hx hb dX9_noteOf_2 (by decide) ?_
  obtain ⟨w_1, σ_1, hc_1, hm0⟩ := rc_bd_inv hm
  clear hm
  refine rc_ci hS (va_runV (As := [.int u1, .int (1 : Int32)]) (rest := []) ⟨hx, hb, hml, hown, hts⟩ (k_X9_of l hT a0 u1 (1 : Int32) h0 s.heap.size _ _ _ hc_1) (cwV 2 hts (rc_gV tw_7_163 tw_7_165 tw_p_20 tw_1_14 tw_7_166) rfl rfl rfl (by decide +kernel) ⟨Nat.le_of_ble_eq_true rfl, Nat.le_of_ble_eq_true rfl⟩) (rc_preV hT hW hK hE hS h0 (by decide) rfl (q := (RX9, TX9, 22)) rfl [.int u1, .int (1 : Int32)]) rfl rfl hl.1 rfl (lv_room (Nat.le_of_ble_eq_true rfl)) dX9_noteOf_3 ⟨Nat.le_of_ble_eq_true rfl, Nat.le_of_ble_eq_true rfl⟩) (fun H locs hW hS => ?_)
  have hm := hm0
  clear hm0 hc_1
  refine lv_if_ne (tgt := 11) hx hb dX9_noteOf_6 (by decide) (fun c_8 => ?_) (fun c_8 => ?_)
  · replace hm := rc_f hm c_8
    refine lv_aload_n hx hb dX9_noteOf_11 rfl (lv_at hl 0 rfl) ?_
    refine lv_iload_n hx hb dX9_noteOf_12 rfl (lv_at hl 1 rfl) ?_
    refine lv_iconst (v := 4) hx hb dX9_noteOf_13 (by decide) ?_
    obtain ⟨w_2, σ_2, hc_2, hm0⟩ := rc_bd_inv hm
    clear hm
    refine rc_ci hS (va_runV (As := [.int u1, .int (4 : Int32)]) (rest := []) ⟨hx, hb, hml, hown, hts⟩ (k_X9_of l hT a0 u1 (4 : Int32) h0 H.size _ _ _ hc_2) (cwV 2 hts (rc_gV tw_7_163 tw_7_165 tw_p_20 tw_1_14 tw_7_166) rfl rfl rfl (by decide +kernel) ⟨Nat.le_of_ble_eq_true rfl, Nat.le_of_ble_eq_true rfl⟩) (rc_preV hT hW hK hE hS h0 (by decide) rfl (q := (RX9, TX9, 22)) rfl [.int u1, .int (4 : Int32)]) rfl rfl hl.1 rfl (lv_room (Nat.le_of_ble_eq_true rfl)) dX9_noteOf_14 ⟨Nat.le_of_ble_eq_true rfl, Nat.le_of_ble_eq_true rfl⟩) (fun H locs hW hS => ?_)
    have hm := hm0
    clear hm0 hc_2
    refine lv_aload_n hx hb dX9_noteOf_17 rfl (lv_at hl 0 rfl) ?_
    refine lv_iload_n hx hb dX9_noteOf_18 rfl (lv_at hl 1 rfl) ?_
    obtain ⟨w_3, σ_3, hc_3, hm0⟩ := rc_bd_inv hm
    clear hm
    refine rc_ci hS (va_runV (As := [.int u1]) (rest := [.int w_2]) ⟨hx, hb, hml, hown, hts⟩ (k_X9_ageOf l hT a0 u1 h0 H.size _ _ _ hc_3) (cwV 1 hts (rc_gV tw_8_46 tw_8_48 tw_p_43 tw_1_14 tw_8_49) rfl rfl rfl (by decide +kernel) ⟨Nat.le_of_ble_eq_true rfl, Nat.le_of_ble_eq_true rfl⟩) (rc_preV hT hW hK hE hS h0 (by decide) rfl (q := (RX9, TX9, 22)) rfl [.int u1]) rfl rfl hl.1 rfl (lv_room (Nat.le_of_ble_eq_true rfl)) dX9_noteOf_19 ⟨Nat.le_of_ble_eq_true rfl, Nat.le_of_ble_eq_true rfl⟩) (fun H locs hW hS => ?_)
    have hm := hm0
    clear hm0 hc_3
    refine lv_iload_n hx hb dX9_noteOf_22 rfl (lv_at hl 2 rfl) ?_
    refine lv_iadd hx hb dX9_noteOf_23 ?_
    refine lv_iconst (v := 2) hx hb dX9_noteOf_24 (by decide) ?_
    refine lv_idiv hx hb dX9_noteOf_25 (by decide) ?_
    refine lv_iadd hx hb dX9_noteOf_26 ?_
    refine lv_topi (fun v3_4 ev => ?_)
    replace hm := rc_lt_at hm ev
    clear ev
    refine lv_istore_n (lv' := [(3, .int v3_4), (0, .ref a0), (1, .int u1), (2, .int u2)]) hx hb dX9_noteOf_27 rfl hl (by decide) rfl (fun ls hl => ?_)
    refine lv_iload_n hx hb dX9_noteOf_28 rfl (lv_at hl 0 rfl) ?_
    refine lv_bipush (v := 9) hx hb dX9_noteOf_29 (by decide) ?_
    refine lv_icmp_le (tgt := 39) hx hb dX9_noteOf_31 (by decide) (fun c_7 => ?_) (fun c_7 => ?_)
    · replace hm := rc_t hm c_7
      refine lv_iload_n hx hb dX9_noteOf_39 rfl (lv_at hl 0 rfl) ?_
      refine lv_bipush (v := 100) hx hb dX9_noteOf_40 (by decide) ?_
      refine lv_aload_n hx hb dX9_noteOf_42 rfl (lv_at hl 1 rfl) ?_
      refine lv_iload_n hx hb dX9_noteOf_43 rfl (lv_at hl 2 rfl) ?_
      obtain ⟨w_5, σ_5, hc_5, hm0⟩ := rc_bd_inv hm
      clear hm
      refine rc_ci hS (va_runV (As := [.int u1]) (rest := [.int (100 : Int32), .int v3_4]) ⟨hx, hb, hml, hown, hts⟩ (k_X9_part l hT a0 u1 h0 H.size _ _ _ hc_5) (cwV 1 hts (rc_gV tw_7_227 tw_7_229 tw_p_33 tw_1_14 tw_7_230) rfl rfl rfl (by decide +kernel) ⟨Nat.le_of_ble_eq_true rfl, Nat.le_of_ble_eq_true rfl⟩) (rc_preV hT hW hK hE hS h0 (by decide) rfl (q := (RX9, TX9, 22)) rfl [.int u1]) rfl rfl hl.1 rfl (lv_room (Nat.le_of_ble_eq_true rfl)) dX9_noteOf_44 ⟨Nat.le_of_ble_eq_true rfl, Nat.le_of_ble_eq_true rfl⟩) (fun H locs hW hS => ?_)
      have hm := hm0
      clear hm0 hc_5
      refine lv_isub hx hb dX9_noteOf_47 ?_
      refine lv_imul hx hb dX9_noteOf_48 ?_
      refine lv_bipush (v := 100) hx hb dX9_noteOf_49 (by decide) ?_
      refine lv_idiv hx hb dX9_noteOf_51 (by decide) ?_
      exact rc_eiret hx hb hr hlocks hW hS (Nat.le_of_ble_eq_true rfl) (Nat.le_of_ble_eq_true rfl) hm dX9_noteOf_52
    · replace hm := rc_f hm c_7
      refine lv_bipush (v := 9) hx hb dX9_noteOf_34 (by decide) ?_
      refine lv_goto (tgt := 40) hx hb dX9_noteOf_36 (by decide) ?_
      refine lv_bipush (v := 100) hx hb dX9_noteOf_40 (by decide) ?_
      refine lv_aload_n hx hb dX9_noteOf_42 rfl (lv_at hl 1 rfl) ?_
      refine lv_iload_n hx hb dX9_noteOf_43 rfl (lv_at hl 2 rfl) ?_
      obtain ⟨w_6, σ_6, hc_6, hm0⟩ := rc_bd_inv hm
      clear hm
      refine rc_ci hS (va_runV (As := [.int u1]) (rest := [.int (100 : Int32), .int (9 : Int32)]) ⟨hx, hb, hml, hown, hts⟩ (k_X9_part l hT a0 u1 h0 H.size _ _ _ hc_6) (cwV 1 hts (rc_gV tw_7_227 tw_7_229 tw_p_33 tw_1_14 tw_7_230) rfl rfl rfl (by decide +kernel) ⟨Nat.le_of_ble_eq_true rfl, Nat.le_of_ble_eq_true rfl⟩) (rc_preV hT hW hK hE hS h0 (by decide) rfl (q := (RX9, TX9, 22)) rfl [.int u1]) rfl rfl hl.1 rfl (lv_room (Nat.le_of_ble_eq_true rfl)) dX9_noteOf_44 ⟨Nat.le_of_ble_eq_true rfl, Nat.le_of_ble_eq_true rfl⟩) (fun H locs hW hS => ?_)
      have hm := hm0
      clear hm0 hc_6
      refine lv_isub hx hb dX9_noteOf_47 ?_
      refine lv_imul hx hb dX9_noteOf_48 ?_
      refine lv_bipush (v := 100) hx hb dX9_noteOf_49 (by decide) ?_
      refine lv_idiv hx hb dX9_noteOf_51 (by decide) ?_
      exact rc_eiret hx hb hr hlocks hW hS (Nat.le_of_ble_eq_true rfl) (Nat.le_of_ble_eq_true rfl) hm dX9_noteOf_52
  · replace hm := rc_t hm c_8
    refine lv_iconst (v := 0) hx hb dX9_noteOf_9 (by decide) ?_
    exact rc_eiret hx hb hr hlocks hW hS (Nat.le_of_ble_eq_true rfl) (Nat.le_of_ble_eq_true rfl) hm dX9_noteOf_10
set_option maxHeartbeats 4000000 in
set_option maxRecDepth 100000 in
theorem k_X9_notes (l : Launch) {Y : rc_Y} {sh : Nat → Nat} {rf : rc_F} (hT : rc_T Y sh rf) (a0 : Nat) (u1 : Int32) (u2 : Int32) (h0 : sh a0 = 10) (sz : Nat) (σ σ' : rc_S) (r : Int32) (hm : f_X9_notes rf a0 u1 u2 σ = some (r, σ')) : Met l yX9_notes (Cond.code yX9_notes cX9_notes 4 (some .boolean) :: rc_big) ({ frames := 0, cells := 0, slots := 0, locals := 0 } : Room) (rc_P Y sh rf σ sz [.ref a0, .int u1, .int u2]) (va_Qi (fun (r' : Int32) (_ : Unit) => r' = r) (fun _ t => rc_W Y sh rf σ' t.heap) (rc_A sh sz)) 0 0 (rc_A sh sz) := by
  refine Met.ofW (cc := cX9_notes) (maxL := 4) (ret := (some .boolean)) (by decide +kernel) rfl ?_
  intro p e s m args below meth c s₁ B hml hv
  obtain ⟨rfl, hsz, hW, hK, hE⟩ := hv
  have hx := B.exec
  have hb := B.bytes
  have hr := B.returns
  have hts : ∀ w ∈ rc_big, w.before _ s = true := fun w h => atoms_spec (ws := Cond.code yX9_notes cX9_notes 4 (some .boolean) :: rc_big) B.pre w (List.mem_cons_of_mem _ h)
  have hown : s.vm.findClass RX9 = some m.cls := findClass_of_methodNamed B.named
  have hlocks := B.notSynchronized
  clear B
  subst hsz
  have hS : va_S (rc_A sh s.heap.size) s.heap s.heap [] := va_S.rf
  have hl := lv_entry ([.ref a0, .int u1, .int u2]) (n := 4) (Nat.le_of_ble_eq_true rfl)
  rw [lg_entry_eq]
  generalize (lg_sl ([.ref a0, .int u1, .int u2]) ++ List.replicate (4 - (lg_sl ([.ref a0, .int u1, .int u2])).length) Slot.unset).toArray = ls at hl ⊢
  have hl : lv_has ls 4 [(0, .ref a0), (1, .int u1), (2, .int u2)] := hl
  unfold f_X9_notes at hm
  refine lv_aload_n hx hb dX9_notes_0 rfl (lv_at hl 0 rfl) ?_
  refine rg_10_1 hx hb hts hown hK hW h0 tw_7_70 dX9_notes_1 ?_
  refine lv_bipush (v := 63) hx hb dX9_notes_4 (by decide) ?_
  refine lv_iconst (v := 2) hx hb dX9_notes_6 (by decide) ?_
  refine lv_iload_n hx hb dX9_notes_7 rfl (lv_at hl 1 rfl) ?_
  refine lv_imul hx hb dX9_notes_8 ?_
  refine lv_iadd hx hb dX9_notes_9 ?_
  have hi_1 := (rc_ix hm).1
  replace hm := (rc_ix hm).2
  refine rc_ialdj (j := ((63 : Int32) + ((2 : Int32) * u1)).toNatClampNeg) hx hb hK hW (rc_t_10_1 hT h0) (by decide) rfl hi_1 rfl dX9_notes_10 ?_
  refine lv_iconst (v := 2) hx hb dX9_notes_11 (by decide) ?_
  refine lv_aload_n hx hb dX9_notes_12 rfl (lv_at hl 0 rfl) ?_
  refine rg_10_1 hx hb hts hown hK hW h0 tw_7_70 dX9_notes_13 ?_
  refine lv_bipush (v := 63) hx hb dX9_notes_16 (by decide) ?_
  refine lv_iconst (v := 2) hx hb dX9_notes_18 (by decide) ?_
  refine lv_iload_n hx hb dX9_notes_19 rfl (lv_at hl 1 rfl) ?_
  refine lv_imul hx hb dX9_notes_20 ?_
  refine lv_iadd hx hb dX9_notes_21 ?_
  refine lv_iconst (v := 1) hx hb dX9_notes_22 (by decide) ?_
  refine lv_iadd hx hb dX9_notes_23 ?_
  have hi_2 := (rc_ix hm).1
  replace hm := (rc_ix hm).2
  refine rc_ialdj (j := (((63 : Int32) + ((2 : Int32) * u1)) + (1 : Int32)).toNatClampNeg) hx hb hK hW (rc_t_10_1 hT h0) (by decide) rfl hi_2 rfl dX9_notes_24 ?_
  refine lv_imul hx hb dX9_notes_25 ?_
  refine lv_iadd hx hb dX9_notes_26 ?_
  refine lv_topi (fun v3_3 ev => ?_)
  replace hm := rc_lt_at hm ev
  clear ev
  refine lv_istore_n (lv' := [(3, .int v3_3), (0, .ref a0), (1, .int u1), (2, .int u2)]) hx hb dX9_notes_27 rfl hl (by decide) rfl (fun ls hl => ?_)
  refine lv_iload_n hx hb dX9_notes_28 rfl (lv_at hl 3 rfl) ?_
  refine lv_if_le (tgt := 46) hx hb dX9_notes_29 (by decide) (fun c_5 => ?_) (fun c_5 => ?_)
  · replace hm := rc_t hm c_5
    refine lv_iconst (v := 0) hx hb dX9_notes_46 (by decide) ?_
    exact rc_ezret hx hb hr hlocks hW hS (Nat.le_of_ble_eq_true rfl) (Nat.le_of_ble_eq_true rfl) rfl hm dX9_notes_47
  · replace hm := rc_f hm c_5
    refine lv_iload_n hx hb dX9_notes_32 rfl (lv_at hl 3 rfl) ?_
    refine lv_bipush (v := 50) hx hb dX9_notes_33 (by decide) ?_
    refine lv_iconst (v := 5) hx hb dX9_notes_35 (by decide) ?_
    refine lv_iload_n hx hb dX9_notes_36 rfl (lv_at hl 0 rfl) ?_
    refine lv_imul hx hb dX9_notes_37 ?_
    refine lv_isub hx hb dX9_notes_38 ?_
    refine lv_icmp_le (tgt := 46) hx hb dX9_notes_39 (by decide) (fun c_4 => ?_) (fun c_4 => ?_)
    · replace hm := rc_t hm c_4
      refine lv_iconst (v := 0) hx hb dX9_notes_46 (by decide) ?_
      exact rc_ezret hx hb hr hlocks hW hS (Nat.le_of_ble_eq_true rfl) (Nat.le_of_ble_eq_true rfl) rfl hm dX9_notes_47
    · replace hm := rc_f hm c_4
      refine lv_iconst (v := 1) hx hb dX9_notes_42 (by decide) ?_
      refine lv_goto (tgt := 47) hx hb dX9_notes_43 (by decide) ?_
      exact rc_ezret hx hb hr hlocks hW hS (Nat.le_of_ble_eq_true rfl) (Nat.le_of_ble_eq_true rfl) rfl hm dX9_notes_47
set_option maxHeartbeats 4000000 in
set_option maxRecDepth 100000 in
theorem k_X9_noses (l : Launch) {Y : rc_Y} {sh : Nat → Nat} {rf : rc_F} (hT : rc_T Y sh rf) (a0 : Nat) (u1 : Int32) (h0 : sh a0 = 10) (sz : Nat) (σ σ' : rc_S) (r : Int32) (hm : f_X9_noses rf a0 u1 σ = some (r, σ')) : Met l yX9_noses (Cond.code yX9_noses cX9_noses 4 (some .int) :: rc_big) ({ frames := 1, cells := 0, slots := 0, locals := 23 } : Room) (rc_P Y sh rf σ sz [.ref a0, .int u1]) (va_Qi (fun (r' : Int32) (_ : Unit) => r' = r) (fun _ t => rc_W Y sh rf σ' t.heap) (rc_A sh sz)) 0 0 (rc_A sh sz) := by
  refine Met.ofW (cc := cX9_noses) (maxL := 4) (ret := (some .int)) (by decide +kernel) rfl ?_
  intro p e s m args below meth c s₁ B hml hv
  obtain ⟨rfl, hsz, hW, hK, hE⟩ := hv
  have hx := B.exec
  have hb := B.bytes
  have hr := B.returns
  have hts : ∀ w ∈ rc_big, w.before _ s = true := fun w h => atoms_spec (ws := Cond.code yX9_noses cX9_noses 4 (some .int) :: rc_big) B.pre w (List.mem_cons_of_mem _ h)
  have hown : s.vm.findClass RX9 = some m.cls := findClass_of_methodNamed B.named
  have hlocks := B.notSynchronized
  clear B
  subst hsz
  have hS : va_S (rc_A sh s.heap.size) s.heap s.heap [] := va_S.rf
  have hl := lv_entry ([.ref a0, .int u1]) (n := 4) (Nat.le_of_ble_eq_true rfl)
  rw [lg_entry_eq]
  generalize (lg_sl ([.ref a0, .int u1]) ++ List.replicate (4 - (lg_sl ([.ref a0, .int u1])).length) Slot.unset).toArray = ls at hl ⊢
  have hl : lv_has ls 4 [(0, .ref a0), (1, .int u1)] := hl
  have lp_4 : ∀ (v1 : Int32) (K : Int32 → Int32 → rc_S → Option (Int32 × rc_S)) (hKK : ∀ (v2 v3 : Int32) (σ : rc_S) (H : Heap) (locs : List Loc) (ls : Array Slot), K v2 v3 σ = some (r, σ') → rc_W Y sh rf σ H → va_S (rc_A sh s.heap.size) s.heap H locs → lv_has ls 4 [(2, .int v2)] → W p l e (headSpec (Cond.code yX9_noses cX9_noses 4 (some .int) :: rc_big) ({ frames := 1, cells := 0, slots := 0, locals := 23 } : Room)).room s m (([.ref a0, .int u1] : List Value).toArray) below meth c H locs 0 0 (MQ below (va_Qi (fun (r' : Int32) (_ : Unit) => r' = r) (fun _ t => rc_W Y sh rf σ' t.heap) (rc_A sh s.heap.size)) ([.ref a0, .int u1] : List Value).toArray s 0 0 (rc_A sh s.heap.size)) (F0 m 39 ls [])) (n : Nat) (v2 v3 : Int32) (σ : rc_S) (H : Heap) (locs : List Loc) (ls : Array Slot), f_X9_noses_4 rf a0 v1 K n v2 v3 σ = some (r, σ') → rc_W Y sh rf σ H → va_S (rc_A sh s.heap.size) s.heap H locs → lv_has ls 4 [(0, .ref a0), (1, .int v1), (2, .int v2), (3, .int v3)] → W p l e (headSpec (Cond.code yX9_noses cX9_noses 4 (some .int) :: rc_big) ({ frames := 1, cells := 0, slots := 0, locals := 23 } : Room)).room s m (([.ref a0, .int u1] : List Value).toArray) below meth c H locs 0 0 (MQ below (va_Qi (fun (r' : Int32) (_ : Unit) => r' = r) (fun _ t => rc_W Y sh rf σ' t.heap) (rc_A sh s.heap.size)) ([.ref a0, .int u1] : List Value).toArray s 0 0 (rc_A sh s.heap.size)) (F0 m 4 ls []) := by
    intro v1 K hKK n
    induction n with
    | zero =>
      intro v2 v3 σ H locs ls hm
      rw [f_X9_noses_4] at hm
      cases hm
    | succ n ih =>
      intro v2 v3 σ H locs ls hm hW hS hl
      rw [f_X9_noses_4] at hm
      refine lv_iload_n hx hb dX9_noses_4 rfl (lv_at hl 3 rfl) ?_
      refine lv_aload_n hx hb dX9_noses_5 rfl (lv_at hl 0 rfl) ?_
      refine rg_10_1 hx hb hts hown hK hW h0 tw_7_70 dX9_noses_6 ?_
      refine lv_iconst (v := 1) hx hb dX9_noses_9 (by decide) ?_
      refine rc_ialdj (j := 1) hx hb hK hW (rc_t_10_1 hT h0) (by decide) rfl (rc_inD (by decide)) (by decide) dX9_noses_10 ?_
      refine lv_icmp_ge (tgt := 39) hx hb dX9_noses_11 (by decide) (fun c_7 => ?_) (fun c_7 => ?_)
      · replace hm := rc_t hm c_7
        exact hKK v2 v3 σ _ _ _ hm hW hS (lv_sub hl [2] rfl)
      · replace hm := rc_f hm c_7
        refine lv_iload_n hx hb dX9_noses_14 rfl (lv_at hl 2 rfl) ?_
        refine lv_aload_n hx hb dX9_noses_15 rfl (lv_at hl 0 rfl) ?_
        refine lv_iload_n hx hb dX9_noses_16 rfl (lv_at hl 3 rfl) ?_
        refine lv_iload_n hx hb dX9_noses_17 rfl (lv_at hl 1 rfl) ?_
        obtain ⟨w_1, σ_1, hc_1, hm0⟩ := rc_bd_inv hm
        clear hm
        refine rc_ci hS (va_runV (As := [.int v3, .int v1]) (rest := [.int v2]) ⟨hx, hb, hml, hown, hts⟩ (k_X9_notes l hT a0 v3 v1 h0 H.size _ _ _ hc_1) (cwV 2 hts (rc_gV tw_8_38 tw_8_40 tw_p_41 tw_1_14 tw_8_41) rfl rfl rfl (by decide +kernel) ⟨Nat.le_of_ble_eq_true rfl, Nat.le_of_ble_eq_true rfl⟩) (rc_preV hT hW hK hE hS h0 (by decide) rfl (q := (RX9, TX9, 22)) rfl [.int v3, .int v1]) rfl rfl hl.1 rfl (lv_room (Nat.le_of_ble_eq_true rfl)) dX9_noses_18 ⟨Nat.le_of_ble_eq_true rfl, Nat.le_of_ble_eq_true rfl⟩) (fun H locs hW hS => ?_)
        have hm := hm0
        clear hm0 hc_1
        refine lv_if_eq (tgt := 30) hx hb dX9_noses_21 (by decide) (fun c_6 => ?_) (fun c_6 => ?_)
        · replace hm := rc_t hm c_6
          refine lv_iconst (v := 0) hx hb dX9_noses_30 (by decide) ?_
          refine lv_ior hx hb dX9_noses_31 ?_
          refine lv_topi (fun v2_2 ev => ?_)
          replace hm := rc_lt_at hm ev
          clear ev
          refine lv_istore_n (lv' := [(2, .int v2_2), (0, .ref a0), (1, .int v1), (3, .int v3)]) hx hb dX9_noses_32 rfl hl (by decide) rfl (fun ls hl => ?_)
          obtain ⟨v3_3, ev⟩ : ∃ y : Int32, y = (v3 + 1) := ⟨_, rfl⟩
          replace hm := rc_lt_at hm ev
          refine lv_iinc (v := v3_3) (lv' := [(3, .int v3_3), (2, .int v2_2), (0, .ref a0), (1, .int v1)]) hx hb dX9_noses_33 hl (k := 3) rfl (by rw [ev]; rfl) (by decide) rfl (fun ls hl => ?_)
          clear ev
          refine lv_goto (tgt := 4) hx hb dX9_noses_36 (by decide) ?_
          exact ih v2_2 v3_3 σ_1 _ _ _ hm hW hS (lv_sub hl [2, 3, 1, 0] rfl)
        · replace hm := rc_f hm c_6
          refine lv_iconst (v := 1) hx hb dX9_noses_24 (by decide) ?_
          refine lv_iload_n hx hb dX9_noses_25 rfl (lv_at hl 3 rfl) ?_
          refine lv_ishl hx hb dX9_noses_26 ?_
          refine lv_goto (tgt := 31) hx hb dX9_noses_27 (by decide) ?_
          refine lv_ior hx hb dX9_noses_31 ?_
          refine lv_topi (fun v2_4 ev => ?_)
          replace hm := rc_lt_at hm ev
          clear ev
          refine lv_istore_n (lv' := [(2, .int v2_4), (0, .ref a0), (1, .int v1), (3, .int v3)]) hx hb dX9_noses_32 rfl hl (by decide) rfl (fun ls hl => ?_)
          obtain ⟨v3_5, ev⟩ : ∃ y : Int32, y = (v3 + 1) := ⟨_, rfl⟩
          replace hm := rc_lt_at hm ev
          refine lv_iinc (v := v3_5) (lv' := [(3, .int v3_5), (2, .int v2_4), (0, .ref a0), (1, .int v1)]) hx hb dX9_noses_33 hl (k := 3) rfl (by rw [ev]; rfl) (by decide) rfl (fun ls hl => ?_)
          clear ev
          refine lv_goto (tgt := 4) hx hb dX9_noses_36 (by decide) ?_
          exact ih v2_4 v3_5 σ_1 _ _ _ hm hW hS (lv_sub hl [2, 3, 1, 0] rfl)
  unfold f_X9_noses at hm
  refine lv_iconst (v := 0) hx hb dX9_noses_0 (by decide) ?_
  refine lv_istore_n (lv' := [(2, .int (0 : Int32)), (0, .ref a0), (1, .int u1)]) hx hb dX9_noses_1 rfl hl (by decide) rfl (fun ls hl => ?_)
  refine lv_iconst (v := 0) hx hb dX9_noses_2 (by decide) ?_
  refine lv_istore_n (lv' := [(3, .int (0 : Int32)), (2, .int (0 : Int32)), (0, .ref a0), (1, .int u1)]) hx hb dX9_noses_3 rfl hl (by decide) rfl (fun ls hl => ?_)
  refine lp_4 u1 _ (fun v2_8 v3_9 σ_10 H locs ls hm hW hS hl => ?_) rc_fu (0 : Int32) (0 : Int32) σ _ _ _ hm hW hS (lv_sub hl [2, 3, 1, 0] rfl)
  refine lv_iload_n hx hb dX9_noses_39 rfl (lv_at hl 0 rfl) ?_
  exact rc_eiret hx hb hr hlocks hW hS (Nat.le_of_ble_eq_true rfl) (Nat.le_of_ble_eq_true rfl) hm dX9_noses_40
set_option maxHeartbeats 4000000 in
set_option maxRecDepth 100000 in
theorem k_X9_hailIn (l : Launch) {Y : rc_Y} {sh : Nat → Nat} {rf : rc_F} (hT : rc_T Y sh rf) (a0 : Nat) (u1 : Int32) (u2 : Int32) (h0 : sh a0 = 10) (sz : Nat) (σ σ' : rc_S) (r : Int32) (hm : f_X9_hailIn rf a0 u1 u2 σ = some (r, σ')) : Met l yX9_hailIn (Cond.code yX9_hailIn cX9_hailIn 5 (some .int) :: rc_big) ({ frames := 2, cells := 0, slots := 0, locals := 43 } : Room) (rc_P Y sh rf σ sz [.ref a0, .int u1, .int u2]) (va_Qi (fun (r' : Int32) (_ : Unit) => r' = r) (fun _ t => rc_W Y sh rf σ' t.heap) (rc_A sh sz)) 0 0 (rc_A sh sz) := by
  refine Met.ofW (cc := cX9_hailIn) (maxL := 5) (ret := (some .int)) (by decide +kernel) rfl ?_
  intro p e s m args below meth c s₁ B hml hv
  obtain ⟨rfl, hsz, hW, hK, hE⟩ := hv
  have hx := B.exec
  have hb := B.bytes
  have hr := B.returns
  have hts : ∀ w ∈ rc_big, w.before _ s = true := fun w h => atoms_spec (ws := Cond.code yX9_hailIn cX9_hailIn 5 (some .int) :: rc_big) B.pre w (List.mem_cons_of_mem _ h)
  have hown : s.vm.findClass RX9 = some m.cls := findClass_of_methodNamed B.named
  have hlocks := B.notSynchronized
  clear B
  subst hsz
  have hS : va_S (rc_A sh s.heap.size) s.heap s.heap [] := va_S.rf
  have hl := lv_entry ([.ref a0, .int u1, .int u2]) (n := 5) (Nat.le_of_ble_eq_true rfl)
  rw [lg_entry_eq]
  generalize (lg_sl ([.ref a0, .int u1, .int u2]) ++ List.replicate (5 - (lg_sl ([.ref a0, .int u1, .int u2])).length) Slot.unset).toArray = ls at hl ⊢
  have hl : lv_has ls 5 [(0, .ref a0), (1, .int u1), (2, .int u2)] := hl
  unfold f_X9_hailIn at hm
  refine lv_aload_n hx hb dX9_hailIn_0 rfl (lv_at hl 0 rfl) ?_
  refine lv_iload_n hx hb dX9_hailIn_1 rfl (lv_at hl 1 rfl) ?_
  obtain ⟨w_1, σ_1, hc_1, hm0⟩ := rc_bd_inv hm
  clear hm
  refine rc_ci hS (va_runV (As := [.int u1]) (rest := []) ⟨hx, hb, hml, hown, hts⟩ (k_X9_part l hT a0 u1 h0 s.heap.size _ _ _ hc_1) (cwV 1 hts (rc_gV tw_7_227 tw_7_229 tw_p_33 tw_1_14 tw_7_230) rfl rfl rfl (by decide +kernel) ⟨Nat.le_of_ble_eq_true rfl, Nat.le_of_ble_eq_true rfl⟩) (rc_preV hT hW hK hE hS h0 (by decide) rfl (q := (RX9, TX9, 22)) rfl [.int u1]) rfl rfl hl.1 rfl (lv_room (Nat.le_of_ble_eq_true rfl)) dX9_hailIn_2 ⟨Nat.le_of_ble_eq_true rfl, Nat.le_of_ble_eq_true rfl⟩) (fun H locs hW hS => ?_)
  have hm := hm0
  clear hm0 hc_1
  refine lv_iload_n hx hb dX9_hailIn_5 rfl (lv_at hl 2 rfl) ?_
  refine lv_imul hx hb dX9_hailIn_6 ?_
  refine lv_bipush (v := 100) hx hb dX9_hailIn_7 (by decide) ?_
  refine lv_idiv hx hb dX9_hailIn_9 (by decide) ?_
  refine lv_topi (fun v3_2 ev => ?_)
  replace hm := rc_lt_at hm ev
  clear ev
  refine lv_istore_n (lv' := [(3, .int v3_2), (0, .ref a0), (1, .int u1), (2, .int u2)]) hx hb dX9_hailIn_10 rfl hl (by decide) rfl (fun ls hl => ?_)
  refine lv_iload_n hx hb dX9_hailIn_11 rfl (lv_at hl 3 rfl) ?_
  refine lv_aload_n hx hb dX9_hailIn_12 rfl (lv_at hl 1 rfl) ?_
  refine lv_iload_n hx hb dX9_hailIn_13 rfl (lv_at hl 2 rfl) ?_
  refine lv_iconst (v := 1) hx hb dX9_hailIn_14 (by decide) ?_
  obtain ⟨w_3, σ_3, hc_3, hm0⟩ := rc_bd_inv hm
  clear hm
  refine rc_ci hS (va_runV (As := [.int u1, .int (1 : Int32)]) (rest := [.int u2]) ⟨hx, hb, hml, hown, hts⟩ (k_X9_of l hT a0 u1 (1 : Int32) h0 H.size _ _ _ hc_3) (cwV 2 hts (rc_gV tw_7_163 tw_7_165 tw_p_20 tw_1_14 tw_7_166) rfl rfl rfl (by decide +kernel) ⟨Nat.le_of_ble_eq_true rfl, Nat.le_of_ble_eq_true rfl⟩) (rc_preV hT hW hK hE hS h0 (by decide) rfl (q := (RX9, TX9, 22)) rfl [.int u1, .int (1 : Int32)]) rfl rfl hl.1 rfl (lv_room (Nat.le_of_ble_eq_true rfl)) dX9_hailIn_15 ⟨Nat.le_of_ble_eq_true rfl, Nat.le_of_ble_eq_true rfl⟩) (fun H locs hW hS => ?_)
  have hm := hm0
  clear hm0 hc_3
  refine lv_aload_n hx hb dX9_hailIn_18 rfl (lv_at hl 1 rfl) ?_
  refine lv_iload_n hx hb dX9_hailIn_19 rfl (lv_at hl 2 rfl) ?_
  refine lv_iconst (v := 2) hx hb dX9_hailIn_20 (by decide) ?_
  obtain ⟨w_4, σ_4, hc_4, hm0⟩ := rc_bd_inv hm
  clear hm
  refine rc_ci hS (va_runV (As := [.int u1, .int (2 : Int32)]) (rest := [.int w_3, .int u2]) ⟨hx, hb, hml, hown, hts⟩ (k_X9_of l hT a0 u1 (2 : Int32) h0 H.size _ _ _ hc_4) (cwV 2 hts (rc_gV tw_7_163 tw_7_165 tw_p_20 tw_1_14 tw_7_166) rfl rfl rfl (by decide +kernel) ⟨Nat.le_of_ble_eq_true rfl, Nat.le_of_ble_eq_true rfl⟩) (rc_preV hT hW hK hE hS h0 (by decide) rfl (q := (RX9, TX9, 22)) rfl [.int u1, .int (2 : Int32)]) rfl rfl hl.1 rfl (lv_room (Nat.le_of_ble_eq_true rfl)) dX9_hailIn_21 ⟨Nat.le_of_ble_eq_true rfl, Nat.le_of_ble_eq_true rfl⟩) (fun H locs hW hS => ?_)
  have hm := hm0
  clear hm0 hc_4
  refine lv_isub hx hb dX9_hailIn_24 ?_
  refine lv_isub hx hb dX9_hailIn_25 ?_
  refine lv_topi (fun v4_5 ev => ?_)
  replace hm := rc_lt_at hm ev
  clear ev
  refine lv_istore (lv' := [(4, .int v4_5), (3, .int v3_2), (0, .ref a0), (1, .int u1), (2, .int u2)]) hx hb dX9_hailIn_26 hl (by decide) rfl (fun ls hl => ?_)
  refine lv_iload_n hx hb dX9_hailIn_28 rfl (lv_at hl 1 rfl) ?_
  refine lv_iload hx hb dX9_hailIn_29 (lv_at hl 0 rfl) ?_
  refine lv_icmp_ge (tgt := 39) hx hb dX9_hailIn_31 (by decide) (fun c_6 => ?_) (fun c_6 => ?_)
  · replace hm := rc_t hm c_6
    refine lv_iload_n hx hb dX9_hailIn_39 rfl (lv_at hl 1 rfl) ?_
    exact rc_eiret hx hb hr hlocks hW hS (Nat.le_of_ble_eq_true rfl) (Nat.le_of_ble_eq_true rfl) hm dX9_hailIn_40
  · replace hm := rc_f hm c_6
    refine lv_iload hx hb dX9_hailIn_34 (lv_at hl 0 rfl) ?_
    refine lv_goto (tgt := 40) hx hb dX9_hailIn_36 (by decide) ?_
    exact rc_eiret hx hb hr hlocks hW hS (Nat.le_of_ble_eq_true rfl) (Nat.le_of_ble_eq_true rfl) hm dX9_hailIn_40
set_option maxHeartbeats 4000000 in
set_option maxRecDepth 100000 in
theorem k_X9_empties (l : Launch) {Y : rc_Y} {sh : Nat → Nat} {rf : rc_F} (hT : rc_T Y sh rf) (a0 : Nat) (u1 : Int32) (h0 : sh a0 = 10) (sz : Nat) (σ σ' : rc_S) (r : Unit) (hm : f_X9_empties rf a0 u1 σ = some (r, σ')) : Met l yX9_empties (Cond.code yX9_empties cX9_empties 2 none :: rc_big) ({ frames := 1, cells := 0, slots := 0, locals := 23 } : Room) (rc_P Y sh rf σ sz [.ref a0, .int u1]) (va_Qv (fun (_ : Unit) => True) (fun _ t => rc_W Y sh rf σ' t.heap) (rc_A sh sz)) 0 0 (rc_A sh sz) := by
  refine Met.ofW (cc := cX9_empties) (maxL := 2) (ret := none) (by decide +kernel) rfl ?_
  intro p e s m args below meth c s₁ B hml hv
  obtain ⟨rfl, hsz, hW, hK, hE⟩ := hv
  have hx := B.exec
  have hb := B.bytes
  have hr := B.returns
  have hts : ∀ w ∈ rc_big, w.before _ s = true := fun w h => atoms_spec (ws := Cond.code yX9_empties cX9_empties 2 none :: rc_big) B.pre w (List.mem_cons_of_mem _ h)
  have hown : s.vm.findClass RX9 = some m.cls := findClass_of_methodNamed B.named
  have hlocks := B.notSynchronized
  clear B
  subst hsz
  have hS : va_S (rc_A sh s.heap.size) s.heap s.heap [] := va_S.rf
  have hl := lv_entry ([.ref a0, .int u1]) (n := 2) (Nat.le_of_ble_eq_true rfl)
  rw [lg_entry_eq]
  generalize (lg_sl ([.ref a0, .int u1]) ++ List.replicate (2 - (lg_sl ([.ref a0, .int u1])).length) Slot.unset).toArray = ls at hl ⊢
  have hl : lv_has ls 2 [(0, .ref a0), (1, .int u1)] := hl
  unfold f_X9_empties at hm
  refine lv_aload_n hx hb dX9_empties_0 rfl (lv_at hl 0 rfl) ?_
  refine lv_iload_n hx hb dX9_empties_1 rfl (lv_at hl 1 rfl) ?_
  refine lv_iconst (v := 1) hx hb dX9_empties_2 (by decide) ?_
  refine lv_iconst (v := 0) hx hb dX9_empties_3 (by decide) ?_
  obtain ⟨w_1, σ_1, hc_1, hm0⟩ := rc_bd_inv hm
  clear hm
  refine rc_cv hS (va_runV (As := [.int u1, .int (1 : Int32), .int (0 : Int32)]) (rest := []) ⟨hx, hb, hml, hown, hts⟩ (k_X9_sets l hT a0 u1 (1 : Int32) (0 : Int32) h0 s.heap.size _ _ _ hc_1) (cwV 3 hts (rc_gV tw_7_171 tw_7_173 tw_p_22 tw_1_14 tw_7_174) rfl rfl rfl (by decide +kernel) ⟨Nat.le_of_ble_eq_true rfl, Nat.le_of_ble_eq_true rfl⟩) (rc_preV hT hW hK hE hS h0 (by decide) rfl (q := (RX9, TX9, 22)) rfl [.int u1, .int (1 : Int32), .int (0 : Int32)]) rfl rfl hl.1 rfl (lv_room (Nat.le_of_ble_eq_true rfl)) dX9_empties_4 ⟨Nat.le_of_ble_eq_true rfl, Nat.le_of_ble_eq_true rfl⟩) (fun H locs hW hS => ?_)
  have hm := hm0
  clear hm0 hc_1
  refine lv_aload_n hx hb dX9_empties_7 rfl (lv_at hl 0 rfl) ?_
  refine lv_iload_n hx hb dX9_empties_8 rfl (lv_at hl 1 rfl) ?_
  refine lv_iconst (v := 2) hx hb dX9_empties_9 (by decide) ?_
  refine lv_iconst (v := 0) hx hb dX9_empties_10 (by decide) ?_
  obtain ⟨w_2, σ_2, hc_2, hm0⟩ := rc_bd_inv hm
  clear hm
  refine rc_cv hS (va_runV (As := [.int u1, .int (2 : Int32), .int (0 : Int32)]) (rest := []) ⟨hx, hb, hml, hown, hts⟩ (k_X9_sets l hT a0 u1 (2 : Int32) (0 : Int32) h0 H.size _ _ _ hc_2) (cwV 3 hts (rc_gV tw_7_171 tw_7_173 tw_p_22 tw_1_14 tw_7_174) rfl rfl rfl (by decide +kernel) ⟨Nat.le_of_ble_eq_true rfl, Nat.le_of_ble_eq_true rfl⟩) (rc_preV hT hW hK hE hS h0 (by decide) rfl (q := (RX9, TX9, 22)) rfl [.int u1, .int (2 : Int32), .int (0 : Int32)]) rfl rfl hl.1 rfl (lv_room (Nat.le_of_ble_eq_true rfl)) dX9_empties_11 ⟨Nat.le_of_ble_eq_true rfl, Nat.le_of_ble_eq_true rfl⟩) (fun H locs hW hS => ?_)
  have hm := hm0
  clear hm0 hc_2
  refine lv_aload_n hx hb dX9_empties_14 rfl (lv_at hl 0 rfl) ?_
  refine lv_iload_n hx hb dX9_empties_15 rfl (lv_at hl 1 rfl) ?_
  refine lv_iconst (v := 3) hx hb dX9_empties_16 (by decide) ?_
  refine lv_iconst (v := (-1)) hx hb dX9_empties_17 (by decide) ?_
  obtain ⟨w_3, σ_3, hc_3, hm0⟩ := rc_bd_inv hm
  clear hm
  refine rc_cv hS (va_runV (As := [.int u1, .int (3 : Int32), .int (-1 : Int32)]) (rest := []) ⟨hx, hb, hml, hown, hts⟩ (k_X9_sets l hT a0 u1 (3 : Int32) (-1 : Int32) h0 H.size _ _ _ hc_3) (cwV 3 hts (rc_gV tw_7_171 tw_7_173 tw_p_22 tw_1_14 tw_7_174) rfl rfl rfl (by decide +kernel) ⟨Nat.le_of_ble_eq_true rfl, Nat.le_of_ble_eq_true rfl⟩) (rc_preV hT hW hK hE hS h0 (by decide) rfl (q := (RX9, TX9, 22)) rfl [.int u1, .int (3 : Int32), .int (-1 : Int32)]) rfl rfl hl.1 rfl (lv_room (Nat.le_of_ble_eq_true rfl)) dX9_empties_18 ⟨Nat.le_of_ble_eq_true rfl, Nat.le_of_ble_eq_true rfl⟩) (fun H locs hW hS => ?_)
  have hm := hm0
  clear hm0 hc_3
  refine lv_aload_n hx hb dX9_empties_21 rfl (lv_at hl 0 rfl) ?_
  refine lv_iload_n hx hb dX9_empties_22 rfl (lv_at hl 1 rfl) ?_
  refine lv_iconst (v := 4) hx hb dX9_empties_23 (by decide) ?_
  refine lv_iconst (v := 0) hx hb dX9_empties_24 (by decide) ?_
  obtain ⟨w_4, σ_4, hc_4, hm0⟩ := rc_bd_inv hm
  clear hm
  refine rc_cv hS (va_runV (As := [.int u1, .int (4 : Int32), .int (0 : Int32)]) (rest := []) ⟨hx, hb, hml, hown, hts⟩ (k_X9_sets l hT a0 u1 (4 : Int32) (0 : Int32) h0 H.size _ _ _ hc_4) (cwV 3 hts (rc_gV tw_7_171 tw_7_173 tw_p_22 tw_1_14 tw_7_174) rfl rfl rfl (by decide +kernel) ⟨Nat.le_of_ble_eq_true rfl, Nat.le_of_ble_eq_true rfl⟩) (rc_preV hT hW hK hE hS h0 (by decide) rfl (q := (RX9, TX9, 22)) rfl [.int u1, .int (4 : Int32), .int (0 : Int32)]) rfl rfl hl.1 rfl (lv_room (Nat.le_of_ble_eq_true rfl)) dX9_empties_25 ⟨Nat.le_of_ble_eq_true rfl, Nat.le_of_ble_eq_true rfl⟩) (fun H locs hW hS => ?_)
  have hm := hm0
  clear hm0 hc_4
  refine lv_aload_n hx hb dX9_empties_28 rfl (lv_at hl 0 rfl) ?_
  refine lv_iload_n hx hb dX9_empties_29 rfl (lv_at hl 1 rfl) ?_
  refine lv_iconst (v := 5) hx hb dX9_empties_30 (by decide) ?_
  refine lv_iconst (v := 0) hx hb dX9_empties_31 (by decide) ?_
  obtain ⟨w_5, σ_5, hc_5, hm0⟩ := rc_bd_inv hm
  clear hm
  refine rc_cv hS (va_runV (As := [.int u1, .int (5 : Int32), .int (0 : Int32)]) (rest := []) ⟨hx, hb, hml, hown, hts⟩ (k_X9_sets l hT a0 u1 (5 : Int32) (0 : Int32) h0 H.size _ _ _ hc_5) (cwV 3 hts (rc_gV tw_7_171 tw_7_173 tw_p_22 tw_1_14 tw_7_174) rfl rfl rfl (by decide +kernel) ⟨Nat.le_of_ble_eq_true rfl, Nat.le_of_ble_eq_true rfl⟩) (rc_preV hT hW hK hE hS h0 (by decide) rfl (q := (RX9, TX9, 22)) rfl [.int u1, .int (5 : Int32), .int (0 : Int32)]) rfl rfl hl.1 rfl (lv_room (Nat.le_of_ble_eq_true rfl)) dX9_empties_32 ⟨Nat.le_of_ble_eq_true rfl, Nat.le_of_ble_eq_true rfl⟩) (fun H locs hW hS => ?_)
  have hm := hm0
  clear hm0 hc_5
  exact rc_evret hx hb hr hlocks hW hS (Nat.le_of_ble_eq_true rfl) (Nat.le_of_ble_eq_true rfl) hm dX9_empties_35
set_option maxHeartbeats 4000000 in
set_option maxRecDepth 100000 in
theorem k_X9_goes (l : Launch) {Y : rc_Y} {sh : Nat → Nat} {rf : rc_F} (hT : rc_T Y sh rf) (a0 : Nat) (u1 : Int32) (u2 : Int32) (u3 : Int32) (h0 : sh a0 = 10) (sz : Nat) (σ σ' : rc_S) (r : Unit) (hm : f_X9_goes rf a0 u1 u2 u3 σ = some (r, σ')) : Met l yX9_goes (Cond.code yX9_goes cX9_goes 4 none :: rc_big) ({ frames := 2, cells := 0, slots := 0, locals := 44 } : Room) (rc_P Y sh rf σ sz [.ref a0, .int u1, .int u2, .int u3]) (va_Qv (fun (_ : Unit) => True) (fun _ t => rc_W Y sh rf σ' t.heap) (rc_A sh sz)) 0 0 (rc_A sh sz) := by
  refine Met.ofW (cc := cX9_goes) (maxL := 4) (ret := none) (by decide +kernel) rfl ?_
  intro p e s m args below meth c s₁ B hml hv
  obtain ⟨rfl, hsz, hW, hK, hE⟩ := hv
  have hx := B.exec
  have hb := B.bytes
  have hr := B.returns
  have hts : ∀ w ∈ rc_big, w.before _ s = true := fun w h => atoms_spec (ws := Cond.code yX9_goes cX9_goes 4 none :: rc_big) B.pre w (List.mem_cons_of_mem _ h)
  have hown : s.vm.findClass RX9 = some m.cls := findClass_of_methodNamed B.named
  have hlocks := B.notSynchronized
  clear B
  subst hsz
  have hS : va_S (rc_A sh s.heap.size) s.heap s.heap [] := va_S.rf
  have hl := lv_entry ([.ref a0, .int u1, .int u2, .int u3]) (n := 4) (Nat.le_of_ble_eq_true rfl)
  rw [lg_entry_eq]
  generalize (lg_sl ([.ref a0, .int u1, .int u2, .int u3]) ++ List.replicate (4 - (lg_sl ([.ref a0, .int u1, .int u2, .int u3])).length) Slot.unset).toArray = ls at hl ⊢
  have hl : lv_has ls 4 [(0, .ref a0), (1, .int u1), (2, .int u2), (3, .int u3)] := hl
  unfold f_X9_goes at hm
  refine lv_aload_n hx hb dX9_goes_0 rfl (lv_at hl 0 rfl) ?_
  refine lv_iload_n hx hb dX9_goes_1 rfl (lv_at hl 1 rfl) ?_
  refine lv_iconst (v := 1) hx hb dX9_goes_2 (by decide) ?_
  refine lv_aload_n hx hb dX9_goes_3 rfl (lv_at hl 0 rfl) ?_
  refine lv_iload_n hx hb dX9_goes_4 rfl (lv_at hl 1 rfl) ?_
  refine lv_iconst (v := 1) hx hb dX9_goes_5 (by decide) ?_
  obtain ⟨w_1, σ_1, hc_1, hm0⟩ := rc_bd_inv hm
  clear hm
  refine rc_ci hS (va_runV (As := [.int u1, .int (1 : Int32)]) (rest := [.int (1 : Int32), .int u1, .ref a0]) ⟨hx, hb, hml, hown, hts⟩ (k_X9_of l hT a0 u1 (1 : Int32) h0 s.heap.size _ _ _ hc_1) (cwV 2 hts (rc_gV tw_7_163 tw_7_165 tw_p_20 tw_1_14 tw_7_166) rfl rfl rfl (by decide +kernel) ⟨Nat.le_of_ble_eq_true rfl, Nat.le_of_ble_eq_true rfl⟩) (rc_preV hT hW hK hE hS h0 (by decide) rfl (q := (RX9, TX9, 22)) rfl [.int u1, .int (1 : Int32)]) rfl rfl hl.1 rfl (lv_room (Nat.le_of_ble_eq_true rfl)) dX9_goes_6 ⟨Nat.le_of_ble_eq_true rfl, Nat.le_of_ble_eq_true rfl⟩) (fun H locs hW hS => ?_)
  have hm := hm0
  clear hm0 hc_1
  refine lv_iload_n hx hb dX9_goes_9 rfl (lv_at hl 2 rfl) ?_
  refine lv_isub hx hb dX9_goes_10 ?_
  obtain ⟨w_2, σ_2, hc_2, hm0⟩ := rc_bd_inv hm
  clear hm
  refine rc_cv hS (va_runV (As := [.int u1, .int (1 : Int32), .int (w_1 - u2)]) (rest := []) ⟨hx, hb, hml, hown, hts⟩ (k_X9_sets l hT a0 u1 (1 : Int32) (w_1 - u2) h0 H.size _ _ _ hc_2) (cwV 3 hts (rc_gV tw_7_171 tw_7_173 tw_p_22 tw_1_14 tw_7_174) rfl rfl rfl (by decide +kernel) ⟨Nat.le_of_ble_eq_true rfl, Nat.le_of_ble_eq_true rfl⟩) (rc_preV hT hW hK hE hS h0 (by decide) rfl (q := (RX9, TX9, 22)) rfl [.int u1, .int (1 : Int32), .int (w_1 - u2)]) rfl rfl hl.1 rfl (lv_room (Nat.le_of_ble_eq_true rfl)) dX9_goes_11 ⟨Nat.le_of_ble_eq_true rfl, Nat.le_of_ble_eq_true rfl⟩) (fun H locs hW hS => ?_)
  have hm := hm0
  clear hm0 hc_2
  refine lv_aload_n hx hb dX9_goes_14 rfl (lv_at hl 0 rfl) ?_
  refine lv_iload_n hx hb dX9_goes_15 rfl (lv_at hl 1 rfl) ?_
  refine lv_iconst (v := 2) hx hb dX9_goes_16 (by decide) ?_
  refine lv_aload_n hx hb dX9_goes_17 rfl (lv_at hl 0 rfl) ?_
  refine lv_iload_n hx hb dX9_goes_18 rfl (lv_at hl 1 rfl) ?_
  refine lv_iconst (v := 2) hx hb dX9_goes_19 (by decide) ?_
  obtain ⟨w_3, σ_3, hc_3, hm0⟩ := rc_bd_inv hm
  clear hm
  refine rc_ci hS (va_runV (As := [.int u1, .int (2 : Int32)]) (rest := [.int (2 : Int32), .int u1, .ref a0]) ⟨hx, hb, hml, hown, hts⟩ (k_X9_of l hT a0 u1 (2 : Int32) h0 H.size _ _ _ hc_3) (cwV 2 hts (rc_gV tw_7_163 tw_7_165 tw_p_20 tw_1_14 tw_7_166) rfl rfl rfl (by decide +kernel) ⟨Nat.le_of_ble_eq_true rfl, Nat.le_of_ble_eq_true rfl⟩) (rc_preV hT hW hK hE hS h0 (by decide) rfl (q := (RX9, TX9, 22)) rfl [.int u1, .int (2 : Int32)]) rfl rfl hl.1 rfl (lv_room (Nat.le_of_ble_eq_true rfl)) dX9_goes_20 ⟨Nat.le_of_ble_eq_true rfl, Nat.le_of_ble_eq_true rfl⟩) (fun H locs hW hS => ?_)
  have hm := hm0
  clear hm0 hc_3
  refine lv_iload_n hx hb dX9_goes_23 rfl (lv_at hl 3 rfl) ?_
  refine lv_isub hx hb dX9_goes_24 ?_
  obtain ⟨w_4, σ_4, hc_4, hm0⟩ := rc_bd_inv hm
  clear hm
  refine rc_cv hS (va_runV (As := [.int u1, .int (2 : Int32), .int (w_3 - u3)]) (rest := []) ⟨hx, hb, hml, hown, hts⟩ (k_X9_sets l hT a0 u1 (2 : Int32) (w_3 - u3) h0 H.size _ _ _ hc_4) (cwV 3 hts (rc_gV tw_7_171 tw_7_173 tw_p_22 tw_1_14 tw_7_174) rfl rfl rfl (by decide +kernel) ⟨Nat.le_of_ble_eq_true rfl, Nat.le_of_ble_eq_true rfl⟩) (rc_preV hT hW hK hE hS h0 (by decide) rfl (q := (RX9, TX9, 22)) rfl [.int u1, .int (2 : Int32), .int (w_3 - u3)]) rfl rfl hl.1 rfl (lv_room (Nat.le_of_ble_eq_true rfl)) dX9_goes_25 ⟨Nat.le_of_ble_eq_true rfl, Nat.le_of_ble_eq_true rfl⟩) (fun H locs hW hS => ?_)
  have hm := hm0
  clear hm0 hc_4
  refine lv_aload_n hx hb dX9_goes_28 rfl (lv_at hl 0 rfl) ?_
  refine lv_iload_n hx hb dX9_goes_29 rfl (lv_at hl 1 rfl) ?_
  refine lv_iconst (v := 1) hx hb dX9_goes_30 (by decide) ?_
  obtain ⟨w_5, σ_5, hc_5, hm0⟩ := rc_bd_inv hm
  clear hm
  refine rc_ci hS (va_runV (As := [.int u1, .int (1 : Int32)]) (rest := []) ⟨hx, hb, hml, hown, hts⟩ (k_X9_of l hT a0 u1 (1 : Int32) h0 H.size _ _ _ hc_5) (cwV 2 hts (rc_gV tw_7_163 tw_7_165 tw_p_20 tw_1_14 tw_7_166) rfl rfl rfl (by decide +kernel) ⟨Nat.le_of_ble_eq_true rfl, Nat.le_of_ble_eq_true rfl⟩) (rc_preV hT hW hK hE hS h0 (by decide) rfl (q := (RX9, TX9, 22)) rfl [.int u1, .int (1 : Int32)]) rfl rfl hl.1 rfl (lv_room (Nat.le_of_ble_eq_true rfl)) dX9_goes_31 ⟨Nat.le_of_ble_eq_true rfl, Nat.le_of_ble_eq_true rfl⟩) (fun H locs hW hS => ?_)
  have hm := hm0
  clear hm0 hc_5
  refine lv_if_ne (tgt := 42) hx hb dX9_goes_34 (by decide) (fun c_7 => ?_) (fun c_7 => ?_)
  · replace hm := rc_f hm c_7
    exact rc_evret hx hb hr hlocks hW hS (Nat.le_of_ble_eq_true rfl) (Nat.le_of_ble_eq_true rfl) hm dX9_goes_42
  · replace hm := rc_t hm c_7
    refine lv_aload_n hx hb dX9_goes_37 rfl (lv_at hl 0 rfl) ?_
    refine lv_iload_n hx hb dX9_goes_38 rfl (lv_at hl 1 rfl) ?_
    obtain ⟨w_6, σ_6, hc_6, hm0⟩ := rc_bd_inv hm
    clear hm
    refine rc_cv hS (va_runV (As := [.int u1]) (rest := []) ⟨hx, hb, hml, hown, hts⟩ (k_X9_empties l hT a0 u1 h0 H.size _ _ _ hc_6) (cwV 1 hts (rc_gV tw_7_199 tw_7_201 tw_p_28 tw_1_14 tw_7_202) rfl rfl rfl (by decide +kernel) ⟨Nat.le_of_ble_eq_true rfl, Nat.le_of_ble_eq_true rfl⟩) (rc_preV hT hW hK hE hS h0 (by decide) rfl (q := (RX9, TX9, 22)) rfl [.int u1]) rfl rfl hl.1 rfl (lv_room (Nat.le_of_ble_eq_true rfl)) dX9_goes_39 ⟨Nat.le_of_ble_eq_true rfl, Nat.le_of_ble_eq_true rfl⟩) (fun H locs hW hS => ?_)
    have hm := hm0
    clear hm0 hc_6
    exact rc_evret hx hb hr hlocks hW hS (Nat.le_of_ble_eq_true rfl) (Nat.le_of_ble_eq_true rfl) hm dX9_goes_42
set_option maxHeartbeats 4000000 in
set_option maxRecDepth 100000 in
theorem k_X9_caught (l : Launch) {Y : rc_Y} {sh : Nat → Nat} {rf : rc_F} (hT : rc_T Y sh rf) (a0 : Nat) (u1 : Int32) (u2 : Int32) (h0 : sh a0 = 10) (sz : Nat) (σ σ' : rc_S) (r : Int32) (hm : f_X9_caught rf a0 u1 u2 σ = some (r, σ')) : Met l yX9_caught (Cond.code yX9_caught cX9_caught 5 (some .int) :: rc_big) ({ frames := 1, cells := 0, slots := 0, locals := 22 } : Room) (rc_P Y sh rf σ sz [.ref a0, .int u1, .int u2]) (va_Qi (fun (r' : Int32) (_ : Unit) => r' = r) (fun _ t => rc_W Y sh rf σ' t.heap) (rc_A sh sz)) 0 0 (rc_A sh sz) := by
  refine Met.ofW (cc := cX9_caught) (maxL := 5) (ret := (some .int)) (by decide +kernel) rfl ?_
  intro p e s m args below meth c s₁ B hml hv
  obtain ⟨rfl, hsz, hW, hK, hE⟩ := hv
  have hx := B.exec
  have hb := B.bytes
  have hr := B.returns
  have hts : ∀ w ∈ rc_big, w.before _ s = true := fun w h => atoms_spec (ws := Cond.code yX9_caught cX9_caught 5 (some .int) :: rc_big) B.pre w (List.mem_cons_of_mem _ h)
  have hown : s.vm.findClass RX9 = some m.cls := findClass_of_methodNamed B.named
  have hlocks := B.notSynchronized
  clear B
  subst hsz
  have hS : va_S (rc_A sh s.heap.size) s.heap s.heap [] := va_S.rf
  have hl := lv_entry ([.ref a0, .int u1, .int u2]) (n := 5) (Nat.le_of_ble_eq_true rfl)
  rw [lg_entry_eq]
  generalize (lg_sl ([.ref a0, .int u1, .int u2]) ++ List.replicate (5 - (lg_sl ([.ref a0, .int u1, .int u2])).length) Slot.unset).toArray = ls at hl ⊢
  have hl : lv_has ls 5 [(0, .ref a0), (1, .int u1), (2, .int u2)] := hl
  have lp_9 : ∀ (v1 : Int32) (v2 : Int32) (K : Int32 → Int32 → rc_S → Option (Int32 × rc_S)) (hKK : ∀ (v3 v4 : Int32) (σ : rc_S) (H : Heap) (locs : List Loc) (ls : Array Slot), K v3 v4 σ = some (r, σ') → rc_W Y sh rf σ H → va_S (rc_A sh s.heap.size) s.heap H locs → lv_has ls 5 [(1, .int v1), (2, .int v2), (3, .int v3)] → W p l e (headSpec (Cond.code yX9_caught cX9_caught 5 (some .int) :: rc_big) ({ frames := 1, cells := 0, slots := 0, locals := 22 } : Room)).room s m (([.ref a0, .int u1, .int u2] : List Value).toArray) below meth c H locs 0 0 (MQ below (va_Qi (fun (r' : Int32) (_ : Unit) => r' = r) (fun _ t => rc_W Y sh rf σ' t.heap) (rc_A sh s.heap.size)) ([.ref a0, .int u1, .int u2] : List Value).toArray s 0 0 (rc_A sh s.heap.size)) (F0 m 62 ls [])) (n : Nat) (v3 v4 : Int32) (σ : rc_S) (H : Heap) (locs : List Loc) (ls : Array Slot), f_X9_caught_9 rf a0 v1 v2 K n v3 v4 σ = some (r, σ') → rc_W Y sh rf σ H → va_S (rc_A sh s.heap.size) s.heap H locs → lv_has ls 5 [(0, .ref a0), (1, .int v1), (2, .int v2), (3, .int v3), (4, .int v4)] → W p l e (headSpec (Cond.code yX9_caught cX9_caught 5 (some .int) :: rc_big) ({ frames := 1, cells := 0, slots := 0, locals := 22 } : Room)).room s m (([.ref a0, .int u1, .int u2] : List Value).toArray) below meth c H locs 0 0 (MQ below (va_Qi (fun (r' : Int32) (_ : Unit) => r' = r) (fun _ t => rc_W Y sh rf σ' t.heap) (rc_A sh s.heap.size)) ([.ref a0, .int u1, .int u2] : List Value).toArray s 0 0 (rc_A sh s.heap.size)) (F0 m 9 ls []) := by
    intro v1 v2 K hKK n
    induction n with
    | zero =>
      intro v3 v4 σ H locs ls hm
      rw [f_X9_caught_9] at hm
      cases hm
    | succ n ih =>
      intro v3 v4 σ H locs ls hm hW hS hl
      rw [f_X9_caught_9] at hm
      refine lv_iload hx hb dX9_caught_9 (lv_at hl 4 rfl) ?_
      refine lv_aload_n hx hb dX9_caught_11 rfl (lv_at hl 0 rfl) ?_
      refine rg_10_1 hx hb hts hown hK hW h0 tw_7_70 dX9_caught_12 ?_
      refine lv_iconst (v := 0) hx hb dX9_caught_15 (by decide) ?_
      refine rc_ialdj (j := 0) hx hb hK hW (rc_t_10_1 hT h0) (by decide) rfl (rc_inD (by decide)) (by decide) dX9_caught_16 ?_
      refine lv_icmp_ge (tgt := 62) hx hb dX9_caught_17 (by decide) (fun c_12 => ?_) (fun c_12 => ?_)
      · replace hm := rc_t hm c_12
        exact hKK v3 v4 σ _ _ _ hm hW hS (lv_sub hl [1, 2, 3] rfl)
      · replace hm := rc_f hm c_12
        refine lv_aload_n hx hb dX9_caught_20 rfl (lv_at hl 0 rfl) ?_
        refine lv_iload hx hb dX9_caught_21 (lv_at hl 4 rfl) ?_
        refine lv_iconst (v := 0) hx hb dX9_caught_23 (by decide) ?_
        obtain ⟨w_2, σ_2, hc_2, hm0⟩ := rc_bd_inv hm
        clear hm
        refine rc_ci hS (va_runV (As := [.int v4, .int (0 : Int32)]) (rest := []) ⟨hx, hb, hml, hown, hts⟩ (k_X9_of l hT a0 v4 (0 : Int32) h0 H.size _ _ _ hc_2) (cwV 2 hts (rc_gV tw_7_163 tw_7_165 tw_p_20 tw_1_14 tw_7_166) rfl rfl rfl (by decide +kernel) ⟨Nat.le_of_ble_eq_true rfl, Nat.le_of_ble_eq_true rfl⟩) (rc_preV hT hW hK hE hS h0 (by decide) rfl (q := (RX9, TX9, 22)) rfl [.int v4, .int (0 : Int32)]) rfl rfl hl.1 rfl (lv_room (Nat.le_of_ble_eq_true rfl)) dX9_caught_24 ⟨Nat.le_of_ble_eq_true rfl, Nat.le_of_ble_eq_true rfl⟩) (fun H locs hW hS => ?_)
        have hm := hm0
        clear hm0 hc_2
        refine lv_iload_n hx hb dX9_caught_27 rfl (lv_at hl 1 rfl) ?_
        refine lv_icmp_ne (tgt := 56) hx hb dX9_caught_28 (by decide) (fun c_11 => ?_) (fun c_11 => ?_)
        · replace hm := rc_f hm c_11
          obtain ⟨v4_3, ev⟩ : ∃ y : Int32, y = (v4 + 1) := ⟨_, rfl⟩
          replace hm := rc_lt_at hm ev
          refine lv_iinc (v := v4_3) (lv' := [(4, .int v4_3), (0, .ref a0), (1, .int v1), (2, .int v2), (3, .int v3)]) hx hb dX9_caught_56 hl (k := 4) rfl (by rw [ev]; rfl) (by decide) rfl (fun ls hl => ?_)
          clear ev
          refine lv_goto (tgt := 9) hx hb dX9_caught_59 (by decide) ?_
          exact ih v3 v4_3 σ_2 _ _ _ hm hW hS (lv_sub hl [1, 2, 3, 4, 0] rfl)
        · replace hm := rc_t hm c_11
          refine lv_aload_n hx hb dX9_caught_31 rfl (lv_at hl 0 rfl) ?_
          refine lv_iload hx hb dX9_caught_32 (lv_at hl 4 rfl) ?_
          refine lv_iconst (v := 1) hx hb dX9_caught_34 (by decide) ?_
          obtain ⟨w_4, σ_4, hc_4, hm0⟩ := rc_bd_inv hm
          clear hm
          refine rc_ci hS (va_runV (As := [.int v4, .int (1 : Int32)]) (rest := []) ⟨hx, hb, hml, hown, hts⟩ (k_X9_of l hT a0 v4 (1 : Int32) h0 H.size _ _ _ hc_4) (cwV 2 hts (rc_gV tw_7_163 tw_7_165 tw_p_20 tw_1_14 tw_7_166) rfl rfl rfl (by decide +kernel) ⟨Nat.le_of_ble_eq_true rfl, Nat.le_of_ble_eq_true rfl⟩) (rc_preV hT hW hK hE hS h0 (by decide) rfl (q := (RX9, TX9, 22)) rfl [.int v4, .int (1 : Int32)]) rfl rfl hl.1 rfl (lv_room (Nat.le_of_ble_eq_true rfl)) dX9_caught_35 ⟨Nat.le_of_ble_eq_true rfl, Nat.le_of_ble_eq_true rfl⟩) (fun H locs hW hS => ?_)
          have hm := hm0
          clear hm0 hc_4
          refine lv_if_ne (tgt := 56) hx hb dX9_caught_38 (by decide) (fun c_10 => ?_) (fun c_10 => ?_)
          · replace hm := rc_f hm c_10
            obtain ⟨v4_5, ev⟩ : ∃ y : Int32, y = (v4 + 1) := ⟨_, rfl⟩
            replace hm := rc_lt_at hm ev
            refine lv_iinc (v := v4_5) (lv' := [(4, .int v4_5), (0, .ref a0), (1, .int v1), (2, .int v2), (3, .int v3)]) hx hb dX9_caught_56 hl (k := 4) rfl (by rw [ev]; rfl) (by decide) rfl (fun ls hl => ?_)
            clear ev
            refine lv_goto (tgt := 9) hx hb dX9_caught_59 (by decide) ?_
            exact ih v3 v4_5 σ_4 _ _ _ hm hW hS (lv_sub hl [1, 2, 3, 4, 0] rfl)
          · replace hm := rc_t hm c_10
            refine lv_iload_n hx hb dX9_caught_41 rfl (lv_at hl 3 rfl) ?_
            refine lv_bipush (v := 20) hx hb dX9_caught_42 (by decide) ?_
            refine lv_icmp_le (tgt := 54) hx hb dX9_caught_44 (by decide) (fun c_9 => ?_) (fun c_9 => ?_)
            · replace hm := rc_t hm c_9
              refine lv_iconst (v := 0) hx hb dX9_caught_54 (by decide) ?_
              refine lv_istore_n (lv' := [(3, .int (0 : Int32)), (0, .ref a0), (1, .int v1), (2, .int v2), (4, .int v4)]) hx hb dX9_caught_55 rfl hl (by decide) rfl (fun ls hl => ?_)
              obtain ⟨v4_6, ev⟩ : ∃ y : Int32, y = (v4 + 1) := ⟨_, rfl⟩
              replace hm := rc_lt_at hm ev
              refine lv_iinc (v := v4_6) (lv' := [(4, .int v4_6), (3, .int (0 : Int32)), (0, .ref a0), (1, .int v1), (2, .int v2)]) hx hb dX9_caught_56 hl (k := 4) rfl (by rw [ev]; rfl) (by decide) rfl (fun ls hl => ?_)
              clear ev
              refine lv_goto (tgt := 9) hx hb dX9_caught_59 (by decide) ?_
              exact ih (0 : Int32) v4_6 σ_4 _ _ _ hm hW hS (lv_sub hl [2, 3, 4, 1, 0] rfl)
            · replace hm := rc_f hm c_9
              refine lv_iload_n hx hb dX9_caught_47 rfl (lv_at hl 3 rfl) ?_
              refine lv_bipush (v := 20) hx hb dX9_caught_48 (by decide) ?_
              refine lv_isub hx hb dX9_caught_50 ?_
              refine lv_goto (tgt := 55) hx hb dX9_caught_51 (by decide) ?_
              refine lv_topi (fun v3_7 ev => ?_)
              replace hm := rc_lt_at hm ev
              clear ev
              refine lv_istore_n (lv' := [(3, .int v3_7), (0, .ref a0), (1, .int v1), (2, .int v2), (4, .int v4)]) hx hb dX9_caught_55 rfl hl (by decide) rfl (fun ls hl => ?_)
              obtain ⟨v4_8, ev⟩ : ∃ y : Int32, y = (v4 + 1) := ⟨_, rfl⟩
              replace hm := rc_lt_at hm ev
              refine lv_iinc (v := v4_8) (lv' := [(4, .int v4_8), (3, .int v3_7), (0, .ref a0), (1, .int v1), (2, .int v2)]) hx hb dX9_caught_56 hl (k := 4) rfl (by rw [ev]; rfl) (by decide) rfl (fun ls hl => ?_)
              clear ev
              refine lv_goto (tgt := 9) hx hb dX9_caught_59 (by decide) ?_
              exact ih v3_7 v4_8 σ_4 _ _ _ hm hW hS (lv_sub hl [2, 3, 4, 1, 0] rfl)
  unfold f_X9_caught at hm
  refine lv_iload_n hx hb dX9_caught_0 rfl (lv_at hl 1 rfl) ?_
  refine lv_iconst (v := 1) hx hb dX9_caught_1 (by decide) ?_
  refine lv_iadd hx hb dX9_caught_2 ?_
  refine lv_iload_n hx hb dX9_caught_3 rfl (lv_at hl 2 rfl) ?_
  refine lv_imul hx hb dX9_caught_4 ?_
  refine lv_topi (fun v3_1 ev => ?_)
  replace hm := rc_lt_at hm ev
  clear ev
  refine lv_istore_n (lv' := [(3, .int v3_1), (0, .ref a0), (1, .int u1), (2, .int u2)]) hx hb dX9_caught_5 rfl hl (by decide) rfl (fun ls hl => ?_)
  refine lv_iconst (v := 0) hx hb dX9_caught_6 (by decide) ?_
  refine lv_istore (lv' := [(4, .int (0 : Int32)), (3, .int v3_1), (0, .ref a0), (1, .int u1), (2, .int u2)]) hx hb dX9_caught_7 hl (by decide) rfl (fun ls hl => ?_)
  refine lp_9 u1 u2 _ (fun v3_13 v4_14 σ_15 H locs ls hm hW hS hl => ?_) rc_fu v3_1 (0 : Int32) σ _ _ _ hm hW hS (lv_sub hl [2, 3, 4, 1, 0] rfl)
  refine lv_iload_n hx hb dX9_caught_62 rfl (lv_at hl 0 rfl) ?_
  refine lv_iconst (v := 1) hx hb dX9_caught_63 (by decide) ?_
  refine lv_iadd hx hb dX9_caught_64 ?_
  refine lv_iload_n hx hb dX9_caught_65 rfl (lv_at hl 1 rfl) ?_
  refine lv_imul hx hb dX9_caught_66 ?_
  refine lv_iload_n hx hb dX9_caught_67 rfl (lv_at hl 2 rfl) ?_
  refine lv_isub hx hb dX9_caught_68 ?_
  exact rc_eiret hx hb hr hlocks hW hS (Nat.le_of_ble_eq_true rfl) (Nat.le_of_ble_eq_true rfl) hm dX9_caught_69
set_option maxHeartbeats 4000000 in
set_option maxRecDepth 100000 in
theorem k_X9_fills (l : Launch) {Y : rc_Y} {sh : Nat → Nat} {rf : rc_F} (hT : rc_T Y sh rf) (a0 : Nat) (u1 : Int32) (u2 : Int32) (h0 : sh a0 = 10) (sz : Nat) (σ σ' : rc_S) (r : Unit) (hm : f_X9_fills rf a0 u1 u2 σ = some (r, σ')) : Met l yX9_fills (Cond.code yX9_fills cX9_fills 6 none :: rc_big) ({ frames := 1, cells := 0, slots := 0, locals := 23 } : Room) (rc_P Y sh rf σ sz [.ref a0, .int u1, .int u2]) (va_Qv (fun (_ : Unit) => True) (fun _ t => rc_W Y sh rf σ' t.heap) (rc_A sh sz)) 0 0 (rc_A sh sz) := by
  refine Met.ofW (cc := cX9_fills) (maxL := 6) (ret := none) (by decide +kernel) rfl ?_
  intro p e s m args below meth c s₁ B hml hv
  obtain ⟨rfl, hsz, hW, hK, hE⟩ := hv
  have hx := B.exec
  have hb := B.bytes
  have hr := B.returns
  have hts : ∀ w ∈ rc_big, w.before _ s = true := fun w h => atoms_spec (ws := Cond.code yX9_fills cX9_fills 6 none :: rc_big) B.pre w (List.mem_cons_of_mem _ h)
  have hown : s.vm.findClass RX9 = some m.cls := findClass_of_methodNamed B.named
  have hlocks := B.notSynchronized
  clear B
  subst hsz
  have hS : va_S (rc_A sh s.heap.size) s.heap s.heap [] := va_S.rf
  have hl := lv_entry ([.ref a0, .int u1, .int u2]) (n := 6) (Nat.le_of_ble_eq_true rfl)
  rw [lg_entry_eq]
  generalize (lg_sl ([.ref a0, .int u1, .int u2]) ++ List.replicate (6 - (lg_sl ([.ref a0, .int u1, .int u2])).length) Slot.unset).toArray = ls at hl ⊢
  have hl : lv_has ls 6 [(0, .ref a0), (1, .int u1), (2, .int u2)] := hl
  have lp_9 : ∀ (v1 : Int32) (v2 : Int32) (K : Int32 → Int32 → rc_S → Option (Unit × rc_S)) (hKK : ∀ (v3 v4 : Int32) (σ : rc_S) (H : Heap) (locs : List Loc) (ls : Array Slot), K v3 v4 σ = some (r, σ') → rc_W Y sh rf σ H → va_S (rc_A sh s.heap.size) s.heap H locs → lv_has ls 6 [(0, .ref a0), (1, .int v1), (2, .int v2), (3, .int v3)] → W p l e (headSpec (Cond.code yX9_fills cX9_fills 6 none :: rc_big) ({ frames := 1, cells := 0, slots := 0, locals := 23 } : Room)).room s m (([.ref a0, .int u1, .int u2] : List Value).toArray) below meth c H locs 0 0 (MQ below (va_Qv (fun (_ : Unit) => True) (fun _ t => rc_W Y sh rf σ' t.heap) (rc_A sh s.heap.size)) ([.ref a0, .int u1, .int u2] : List Value).toArray s 0 0 (rc_A sh s.heap.size)) (F0 m 124 ls [])) (n : Nat) (v3 v4 : Int32) (σ : rc_S) (H : Heap) (locs : List Loc) (ls : Array Slot), f_X9_fills_9 rf a0 v1 v2 K n v3 v4 σ = some (r, σ') → rc_W Y sh rf σ H → va_S (rc_A sh s.heap.size) s.heap H locs → lv_has ls 6 [(0, .ref a0), (1, .int v1), (2, .int v2), (3, .int v3), (4, .int v4)] → W p l e (headSpec (Cond.code yX9_fills cX9_fills 6 none :: rc_big) ({ frames := 1, cells := 0, slots := 0, locals := 23 } : Room)).room s m (([.ref a0, .int u1, .int u2] : List Value).toArray) below meth c H locs 0 0 (MQ below (va_Qv (fun (_ : Unit) => True) (fun _ t => rc_W Y sh rf σ' t.heap) (rc_A sh s.heap.size)) ([.ref a0, .int u1, .int u2] : List Value).toArray s 0 0 (rc_A sh s.heap.size)) (F0 m 9 ls []) := by
    intro v1 v2 K hKK n
    induction n with
    | zero =>
      intro v3 v4 σ H locs ls hm
      rw [f_X9_fills_9] at hm
      cases hm
    | succ n ih =>
      intro v3 v4 σ H locs ls hm hW hS hl
      rw [f_X9_fills_9] at hm
      refine lv_iload hx hb dX9_fills_9 (lv_at hl 4 rfl) ?_
      refine lv_aload_n hx hb dX9_fills_11 rfl (lv_at hl 0 rfl) ?_
      refine rg_10_1 hx hb hts hown hK hW h0 tw_7_70 dX9_fills_12 ?_
      refine lv_iconst (v := 0) hx hb dX9_fills_15 (by decide) ?_
      refine rc_ialdj (j := 0) hx hb hK hW (rc_t_10_1 hT h0) (by decide) rfl (rc_inD (by decide)) (by decide) dX9_fills_16 ?_
      refine lv_icmp_ge (tgt := 124) hx hb dX9_fills_17 (by decide) (fun c_24 => ?_) (fun c_24 => ?_)
      · replace hm := rc_t hm c_24
        exact hKK v3 v4 σ _ _ _ hm hW hS (lv_sub hl [0, 1, 2, 3] rfl)
      · replace hm := rc_f hm c_24
        refine lv_iload_n hx hb dX9_fills_20 rfl (lv_at hl 3 rfl) ?_
        refine lv_if_le (tgt := 124) hx hb dX9_fills_21 (by decide) (fun c_23 => ?_) (fun c_23 => ?_)
        · replace hm := rc_t hm c_23
          exact hKK v3 v4 σ _ _ _ hm hW hS (lv_sub hl [0, 1, 2, 3] rfl)
        · replace hm := rc_f hm c_23
          refine lv_aload_n hx hb dX9_fills_24 rfl (lv_at hl 0 rfl) ?_
          refine lv_iload hx hb dX9_fills_25 (lv_at hl 4 rfl) ?_
          refine lv_iconst (v := 0) hx hb dX9_fills_27 (by decide) ?_
          obtain ⟨w_2, σ_2, hc_2, hm0⟩ := rc_bd_inv hm
          clear hm
          refine rc_ci hS (va_runV (As := [.int v4, .int (0 : Int32)]) (rest := []) ⟨hx, hb, hml, hown, hts⟩ (k_X9_of l hT a0 v4 (0 : Int32) h0 H.size _ _ _ hc_2) (cwV 2 hts (rc_gV tw_7_163 tw_7_165 tw_p_20 tw_1_14 tw_7_166) rfl rfl rfl (by decide +kernel) ⟨Nat.le_of_ble_eq_true rfl, Nat.le_of_ble_eq_true rfl⟩) (rc_preV hT hW hK hE hS h0 (by decide) rfl (q := (RX9, TX9, 22)) rfl [.int v4, .int (0 : Int32)]) rfl rfl hl.1 rfl (lv_room (Nat.le_of_ble_eq_true rfl)) dX9_fills_28 ⟨Nat.le_of_ble_eq_true rfl, Nat.le_of_ble_eq_true rfl⟩) (fun H locs hW hS => ?_)
          have hm := hm0
          clear hm0 hc_2
          refine lv_iload_n hx hb dX9_fills_31 rfl (lv_at hl 1 rfl) ?_
          refine lv_icmp_ne (tgt := 118) hx hb dX9_fills_32 (by decide) (fun c_22 => ?_) (fun c_22 => ?_)
          · replace hm := rc_f hm c_22
            obtain ⟨v4_3, ev⟩ : ∃ y : Int32, y = (v4 + 1) := ⟨_, rfl⟩
            replace hm := rc_lt_at hm ev
            refine lv_iinc (v := v4_3) (lv' := [(4, .int v4_3), (0, .ref a0), (1, .int v1), (2, .int v2), (3, .int v3)]) hx hb dX9_fills_118 hl (k := 4) rfl (by rw [ev]; rfl) (by decide) rfl (fun ls hl => ?_)
            clear ev
            refine lv_goto (tgt := 9) hx hb dX9_fills_121 (by decide) ?_
            exact ih v3 v4_3 σ_2 _ _ _ hm hW hS (lv_sub hl [1, 2, 3, 4, 0] rfl)
          · replace hm := rc_t hm c_22
            refine lv_aload_n hx hb dX9_fills_35 rfl (lv_at hl 0 rfl) ?_
            refine lv_iload hx hb dX9_fills_36 (lv_at hl 4 rfl) ?_
            refine lv_iconst (v := 1) hx hb dX9_fills_38 (by decide) ?_
            obtain ⟨w_4, σ_4, hc_4, hm0⟩ := rc_bd_inv hm
            clear hm
            refine rc_ci hS (va_runV (As := [.int v4, .int (1 : Int32)]) (rest := []) ⟨hx, hb, hml, hown, hts⟩ (k_X9_of l hT a0 v4 (1 : Int32) h0 H.size _ _ _ hc_4) (cwV 2 hts (rc_gV tw_7_163 tw_7_165 tw_p_20 tw_1_14 tw_7_166) rfl rfl rfl (by decide +kernel) ⟨Nat.le_of_ble_eq_true rfl, Nat.le_of_ble_eq_true rfl⟩) (rc_preV hT hW hK hE hS h0 (by decide) rfl (q := (RX9, TX9, 22)) rfl [.int v4, .int (1 : Int32)]) rfl rfl hl.1 rfl (lv_room (Nat.le_of_ble_eq_true rfl)) dX9_fills_39 ⟨Nat.le_of_ble_eq_true rfl, Nat.le_of_ble_eq_true rfl⟩) (fun H locs hW hS => ?_)
            have hm := hm0
            clear hm0 hc_4
            refine lv_if_le (tgt := 48) hx hb dX9_fills_42 (by decide) (fun c_21 => ?_) (fun c_21 => ?_)
            · replace hm := rc_t hm c_21
              refine lv_iload_n hx hb dX9_fills_48 rfl (lv_at hl 3 rfl) ?_
              refine lv_bipush (v := 20) hx hb dX9_fills_49 (by decide) ?_
              refine lv_icmp_le (tgt := 59) hx hb dX9_fills_51 (by decide) (fun c_19 => ?_) (fun c_19 => ?_)
              · replace hm := rc_t hm c_19
                refine lv_iload_n hx hb dX9_fills_59 rfl (lv_at hl 3 rfl) ?_
                refine lv_istore (lv' := [(5, .int v3), (0, .ref a0), (1, .int v1), (2, .int v2), (3, .int v3), (4, .int v4)]) hx hb dX9_fills_60 hl (by decide) rfl (fun ls hl => ?_)
                refine lv_aload_n hx hb dX9_fills_62 rfl (lv_at hl 1 rfl) ?_
                refine lv_iload hx hb dX9_fills_63 (lv_at hl 5 rfl) ?_
                refine lv_iconst (v := 1) hx hb dX9_fills_65 (by decide) ?_
                refine lv_iload hx hb dX9_fills_66 (lv_at hl 0 rfl) ?_
                obtain ⟨w_5, σ_5, hc_5, hm0⟩ := rc_bd_inv hm
                clear hm
                refine rc_cv hS (va_runV (As := [.int v4, .int (1 : Int32), .int v3]) (rest := []) ⟨hx, hb, hml, hown, hts⟩ (k_X9_sets l hT a0 v4 (1 : Int32) v3 h0 H.size _ _ _ hc_5) (cwV 3 hts (rc_gV tw_7_171 tw_7_173 tw_p_22 tw_1_14 tw_7_174) rfl rfl rfl (by decide +kernel) ⟨Nat.le_of_ble_eq_true rfl, Nat.le_of_ble_eq_true rfl⟩) (rc_preV hT hW hK hE hS h0 (by decide) rfl (q := (RX9, TX9, 22)) rfl [.int v4, .int (1 : Int32), .int v3]) rfl rfl hl.1 rfl (lv_room (Nat.le_of_ble_eq_true rfl)) dX9_fills_68 ⟨Nat.le_of_ble_eq_true rfl, Nat.le_of_ble_eq_true rfl⟩) (fun H locs hW hS => ?_)
                have hm := hm0
                clear hm0 hc_5
                refine lv_aload_n hx hb dX9_fills_71 rfl (lv_at hl 1 rfl) ?_
                refine lv_iload hx hb dX9_fills_72 (lv_at hl 5 rfl) ?_
                refine lv_iconst (v := 3) hx hb dX9_fills_74 (by decide) ?_
                refine lv_aload_n hx hb dX9_fills_75 rfl (lv_at hl 1 rfl) ?_
                refine rg_10_1 hx hb hts hown hK hW h0 tw_7_70 dX9_fills_76 ?_
                refine lv_iconst (v := 4) hx hb dX9_fills_79 (by decide) ?_
                refine rc_ialdj (j := 4) hx hb hK hW (rc_t_10_1 hT h0) (by decide) rfl (rc_inD (by decide)) (by decide) dX9_fills_80 ?_
                obtain ⟨w_6, σ_6, hc_6, hm0⟩ := rc_bd_inv hm
                clear hm
                refine rc_cv hS (va_runV (As := [.int v4, .int (3 : Int32), .int (σ_5 (rf a0 1) 4)]) (rest := []) ⟨hx, hb, hml, hown, hts⟩ (k_X9_sets l hT a0 v4 (3 : Int32) (σ_5 (rf a0 1) 4) h0 H.size _ _ _ hc_6) (cwV 3 hts (rc_gV tw_7_171 tw_7_173 tw_p_22 tw_1_14 tw_7_174) rfl rfl rfl (by decide +kernel) ⟨Nat.le_of_ble_eq_true rfl, Nat.le_of_ble_eq_true rfl⟩) (rc_preV hT hW hK hE hS h0 (by decide) rfl (q := (RX9, TX9, 22)) rfl [.int v4, .int (3 : Int32), .int (σ_5 (rf a0 1) 4)]) rfl rfl hl.1 rfl (lv_room (Nat.le_of_ble_eq_true rfl)) dX9_fills_81 ⟨Nat.le_of_ble_eq_true rfl, Nat.le_of_ble_eq_true rfl⟩) (fun H locs hW hS => ?_)
                have hm := hm0
                clear hm0 hc_6
                refine lv_aload_n hx hb dX9_fills_84 rfl (lv_at hl 1 rfl) ?_
                refine lv_iload hx hb dX9_fills_85 (lv_at hl 5 rfl) ?_
                refine lv_iconst (v := 4) hx hb dX9_fills_87 (by decide) ?_
                refine lv_aload_n hx hb dX9_fills_88 rfl (lv_at hl 1 rfl) ?_
                refine rg_10_1 hx hb hts hown hK hW h0 tw_7_70 dX9_fills_89 ?_
                refine lv_bipush (v := 11) hx hb dX9_fills_92 (by decide) ?_
                refine lv_iload_n hx hb dX9_fills_94 rfl (lv_at hl 2 rfl) ?_
                refine lv_iadd hx hb dX9_fills_95 ?_
                have hi_7 := (rc_ix hm).1
                replace hm := (rc_ix hm).2
                refine rc_ialdj (j := ((11 : Int32) + v1).toNatClampNeg) hx hb hK hW (rc_t_10_1 hT h0) (by decide) rfl hi_7 rfl dX9_fills_96 ?_
                obtain ⟨w_8, σ_8, hc_8, hm0⟩ := rc_bd_inv hm
                clear hm
                refine rc_cv hS (va_runV (As := [.int v4, .int (4 : Int32), .int (σ_6 (rf a0 1) ((11 : Int32) + v1).toNatClampNeg)]) (rest := []) ⟨hx, hb, hml, hown, hts⟩ (k_X9_sets l hT a0 v4 (4 : Int32) (σ_6 (rf a0 1) ((11 : Int32) + v1).toNatClampNeg) h0 H.size _ _ _ hc_8) (cwV 3 hts (rc_gV tw_7_171 tw_7_173 tw_p_22 tw_1_14 tw_7_174) rfl rfl rfl (by decide +kernel) ⟨Nat.le_of_ble_eq_true rfl, Nat.le_of_ble_eq_true rfl⟩) (rc_preV hT hW hK hE hS h0 (by decide) rfl (q := (RX9, TX9, 22)) rfl [.int v4, .int (4 : Int32), .int (σ_6 (rf a0 1) ((11 : Int32) + v1).toNatClampNeg)]) rfl rfl hl.1 rfl (lv_room (Nat.le_of_ble_eq_true rfl)) dX9_fills_97 ⟨Nat.le_of_ble_eq_true rfl, Nat.le_of_ble_eq_true rfl⟩) (fun H locs hW hS => ?_)
                have hm := hm0
                clear hm0 hc_8
                refine lv_aload_n hx hb dX9_fills_100 rfl (lv_at hl 1 rfl) ?_
                refine lv_iload hx hb dX9_fills_101 (lv_at hl 5 rfl) ?_
                refine lv_iconst (v := 5) hx hb dX9_fills_103 (by decide) ?_
                refine lv_aload_n hx hb dX9_fills_104 rfl (lv_at hl 1 rfl) ?_
                refine rg_10_1 hx hb hts hown hK hW h0 tw_7_70 dX9_fills_105 ?_
                refine lv_iconst (v := 3) hx hb dX9_fills_108 (by decide) ?_
                refine rc_ialdj (j := 3) hx hb hK hW (rc_t_10_1 hT h0) (by decide) rfl (rc_inD (by decide)) (by decide) dX9_fills_109 ?_
                obtain ⟨w_9, σ_9, hc_9, hm0⟩ := rc_bd_inv hm
                clear hm
                refine rc_cv hS (va_runV (As := [.int v4, .int (5 : Int32), .int (σ_8 (rf a0 1) 3)]) (rest := []) ⟨hx, hb, hml, hown, hts⟩ (k_X9_sets l hT a0 v4 (5 : Int32) (σ_8 (rf a0 1) 3) h0 H.size _ _ _ hc_9) (cwV 3 hts (rc_gV tw_7_171 tw_7_173 tw_p_22 tw_1_14 tw_7_174) rfl rfl rfl (by decide +kernel) ⟨Nat.le_of_ble_eq_true rfl, Nat.le_of_ble_eq_true rfl⟩) (rc_preV hT hW hK hE hS h0 (by decide) rfl (q := (RX9, TX9, 22)) rfl [.int v4, .int (5 : Int32), .int (σ_8 (rf a0 1) 3)]) rfl rfl hl.1 rfl (lv_room (Nat.le_of_ble_eq_true rfl)) dX9_fills_110 ⟨Nat.le_of_ble_eq_true rfl, Nat.le_of_ble_eq_true rfl⟩) (fun H locs hW hS => ?_)
                have hm := hm0
                clear hm0 hc_9
                refine lv_iload_n hx hb dX9_fills_113 rfl (lv_at hl 4 rfl) ?_
                refine lv_iload hx hb dX9_fills_114 (lv_at hl 0 rfl) ?_
                refine lv_isub hx hb dX9_fills_116 ?_
                refine lv_topi (fun v3_10 ev => ?_)
                replace hm := rc_lt_at hm ev
                clear ev
                refine lv_istore_n (lv' := [(3, .int v3_10), (5, .int v3), (0, .ref a0), (1, .int v1), (2, .int v2), (4, .int v4)]) hx hb dX9_fills_117 rfl hl (by decide) rfl (fun ls hl => ?_)
                obtain ⟨v4_11, ev⟩ : ∃ y : Int32, y = (v4 + 1) := ⟨_, rfl⟩
                replace hm := rc_lt_at hm ev
                refine lv_iinc (v := v4_11) (lv' := [(4, .int v4_11), (3, .int v3_10), (5, .int v3), (0, .ref a0), (1, .int v1), (2, .int v2)]) hx hb dX9_fills_118 hl (k := 5) rfl (by rw [ev]; rfl) (by decide) rfl (fun ls hl => ?_)
                clear ev
                refine lv_goto (tgt := 9) hx hb dX9_fills_121 (by decide) ?_
                exact ih v3_10 v4_11 σ_9 _ _ _ hm hW hS (lv_sub hl [3, 4, 5, 1, 0] rfl)
              · replace hm := rc_f hm c_19
                refine lv_bipush (v := 20) hx hb dX9_fills_54 (by decide) ?_
                refine lv_goto (tgt := 60) hx hb dX9_fills_56 (by decide) ?_
                refine lv_istore (lv' := [(5, .int (20 : Int32)), (0, .ref a0), (1, .int v1), (2, .int v2), (3, .int v3), (4, .int v4)]) hx hb dX9_fills_60 hl (by decide) rfl (fun ls hl => ?_)
                refine lv_aload_n hx hb dX9_fills_62 rfl (lv_at hl 1 rfl) ?_
                refine lv_iload hx hb dX9_fills_63 (lv_at hl 5 rfl) ?_
                refine lv_iconst (v := 1) hx hb dX9_fills_65 (by decide) ?_
                refine lv_iload hx hb dX9_fills_66 (lv_at hl 0 rfl) ?_
                obtain ⟨w_12, σ_12, hc_12, hm0⟩ := rc_bd_inv hm
                clear hm
                refine rc_cv hS (va_runV (As := [.int v4, .int (1 : Int32), .int (20 : Int32)]) (rest := []) ⟨hx, hb, hml, hown, hts⟩ (k_X9_sets l hT a0 v4 (1 : Int32) (20 : Int32) h0 H.size _ _ _ hc_12) (cwV 3 hts (rc_gV tw_7_171 tw_7_173 tw_p_22 tw_1_14 tw_7_174) rfl rfl rfl (by decide +kernel) ⟨Nat.le_of_ble_eq_true rfl, Nat.le_of_ble_eq_true rfl⟩) (rc_preV hT hW hK hE hS h0 (by decide) rfl (q := (RX9, TX9, 22)) rfl [.int v4, .int (1 : Int32), .int (20 : Int32)]) rfl rfl hl.1 rfl (lv_room (Nat.le_of_ble_eq_true rfl)) dX9_fills_68 ⟨Nat.le_of_ble_eq_true rfl, Nat.le_of_ble_eq_true rfl⟩) (fun H locs hW hS => ?_)
                have hm := hm0
                clear hm0 hc_12
                refine lv_aload_n hx hb dX9_fills_71 rfl (lv_at hl 1 rfl) ?_
                refine lv_iload hx hb dX9_fills_72 (lv_at hl 5 rfl) ?_
                refine lv_iconst (v := 3) hx hb dX9_fills_74 (by decide) ?_
                refine lv_aload_n hx hb dX9_fills_75 rfl (lv_at hl 1 rfl) ?_
                refine rg_10_1 hx hb hts hown hK hW h0 tw_7_70 dX9_fills_76 ?_
                refine lv_iconst (v := 4) hx hb dX9_fills_79 (by decide) ?_
                refine rc_ialdj (j := 4) hx hb hK hW (rc_t_10_1 hT h0) (by decide) rfl (rc_inD (by decide)) (by decide) dX9_fills_80 ?_
                obtain ⟨w_13, σ_13, hc_13, hm0⟩ := rc_bd_inv hm
                clear hm
                refine rc_cv hS (va_runV (As := [.int v4, .int (3 : Int32), .int (σ_12 (rf a0 1) 4)]) (rest := []) ⟨hx, hb, hml, hown, hts⟩ (k_X9_sets l hT a0 v4 (3 : Int32) (σ_12 (rf a0 1) 4) h0 H.size _ _ _ hc_13) (cwV 3 hts (rc_gV tw_7_171 tw_7_173 tw_p_22 tw_1_14 tw_7_174) rfl rfl rfl (by decide +kernel) ⟨Nat.le_of_ble_eq_true rfl, Nat.le_of_ble_eq_true rfl⟩) (rc_preV hT hW hK hE hS h0 (by decide) rfl (q := (RX9, TX9, 22)) rfl [.int v4, .int (3 : Int32), .int (σ_12 (rf a0 1) 4)]) rfl rfl hl.1 rfl (lv_room (Nat.le_of_ble_eq_true rfl)) dX9_fills_81 ⟨Nat.le_of_ble_eq_true rfl, Nat.le_of_ble_eq_true rfl⟩) (fun H locs hW hS => ?_)
                have hm := hm0
                clear hm0 hc_13
                refine lv_aload_n hx hb dX9_fills_84 rfl (lv_at hl 1 rfl) ?_
                refine lv_iload hx hb dX9_fills_85 (lv_at hl 5 rfl) ?_
                refine lv_iconst (v := 4) hx hb dX9_fills_87 (by decide) ?_
                refine lv_aload_n hx hb dX9_fills_88 rfl (lv_at hl 1 rfl) ?_
                refine rg_10_1 hx hb hts hown hK hW h0 tw_7_70 dX9_fills_89 ?_
                refine lv_bipush (v := 11) hx hb dX9_fills_92 (by decide) ?_
                refine lv_iload_n hx hb dX9_fills_94 rfl (lv_at hl 2 rfl) ?_
                refine lv_iadd hx hb dX9_fills_95 ?_
                have hi_14 := (rc_ix hm).1
                replace hm := (rc_ix hm).2
                refine rc_ialdj (j := ((11 : Int32) + v1).toNatClampNeg) hx hb hK hW (rc_t_10_1 hT h0) (by decide) rfl hi_14 rfl dX9_fills_96 ?_
                obtain ⟨w_15, σ_15, hc_15, hm0⟩ := rc_bd_inv hm
                clear hm
                refine rc_cv hS (va_runV (As := [.int v4, .int (4 : Int32), .int (σ_13 (rf a0 1) ((11 : Int32) + v1).toNatClampNeg)]) (rest := []) ⟨hx, hb, hml, hown, hts⟩ (k_X9_sets l hT a0 v4 (4 : Int32) (σ_13 (rf a0 1) ((11 : Int32) + v1).toNatClampNeg) h0 H.size _ _ _ hc_15) (cwV 3 hts (rc_gV tw_7_171 tw_7_173 tw_p_22 tw_1_14 tw_7_174) rfl rfl rfl (by decide +kernel) ⟨Nat.le_of_ble_eq_true rfl, Nat.le_of_ble_eq_true rfl⟩) (rc_preV hT hW hK hE hS h0 (by decide) rfl (q := (RX9, TX9, 22)) rfl [.int v4, .int (4 : Int32), .int (σ_13 (rf a0 1) ((11 : Int32) + v1).toNatClampNeg)]) rfl rfl hl.1 rfl (lv_room (Nat.le_of_ble_eq_true rfl)) dX9_fills_97 ⟨Nat.le_of_ble_eq_true rfl, Nat.le_of_ble_eq_true rfl⟩) (fun H locs hW hS => ?_)
                have hm := hm0
                clear hm0 hc_15
                refine lv_aload_n hx hb dX9_fills_100 rfl (lv_at hl 1 rfl) ?_
                refine lv_iload hx hb dX9_fills_101 (lv_at hl 5 rfl) ?_
                refine lv_iconst (v := 5) hx hb dX9_fills_103 (by decide) ?_
                refine lv_aload_n hx hb dX9_fills_104 rfl (lv_at hl 1 rfl) ?_
                refine rg_10_1 hx hb hts hown hK hW h0 tw_7_70 dX9_fills_105 ?_
                refine lv_iconst (v := 3) hx hb dX9_fills_108 (by decide) ?_
                refine rc_ialdj (j := 3) hx hb hK hW (rc_t_10_1 hT h0) (by decide) rfl (rc_inD (by decide)) (by decide) dX9_fills_109 ?_
                obtain ⟨w_16, σ_16, hc_16, hm0⟩ := rc_bd_inv hm
                clear hm
                refine rc_cv hS (va_runV (As := [.int v4, .int (5 : Int32), .int (σ_15 (rf a0 1) 3)]) (rest := []) ⟨hx, hb, hml, hown, hts⟩ (k_X9_sets l hT a0 v4 (5 : Int32) (σ_15 (rf a0 1) 3) h0 H.size _ _ _ hc_16) (cwV 3 hts (rc_gV tw_7_171 tw_7_173 tw_p_22 tw_1_14 tw_7_174) rfl rfl rfl (by decide +kernel) ⟨Nat.le_of_ble_eq_true rfl, Nat.le_of_ble_eq_true rfl⟩) (rc_preV hT hW hK hE hS h0 (by decide) rfl (q := (RX9, TX9, 22)) rfl [.int v4, .int (5 : Int32), .int (σ_15 (rf a0 1) 3)]) rfl rfl hl.1 rfl (lv_room (Nat.le_of_ble_eq_true rfl)) dX9_fills_110 ⟨Nat.le_of_ble_eq_true rfl, Nat.le_of_ble_eq_true rfl⟩) (fun H locs hW hS => ?_)
                have hm := hm0
                clear hm0 hc_16
                refine lv_iload_n hx hb dX9_fills_113 rfl (lv_at hl 4 rfl) ?_
                refine lv_iload hx hb dX9_fills_114 (lv_at hl 0 rfl) ?_
                refine lv_isub hx hb dX9_fills_116 ?_
                refine lv_topi (fun v3_17 ev => ?_)
                replace hm := rc_lt_at hm ev
                clear ev
                refine lv_istore_n (lv' := [(3, .int v3_17), (5, .int (20 : Int32)), (0, .ref a0), (1, .int v1), (2, .int v2), (4, .int v4)]) hx hb dX9_fills_117 rfl hl (by decide) rfl (fun ls hl => ?_)
                obtain ⟨v4_18, ev⟩ : ∃ y : Int32, y = (v4 + 1) := ⟨_, rfl⟩
                replace hm := rc_lt_at hm ev
                refine lv_iinc (v := v4_18) (lv' := [(4, .int v4_18), (3, .int v3_17), (5, .int (20 : Int32)), (0, .ref a0), (1, .int v1), (2, .int v2)]) hx hb dX9_fills_118 hl (k := 5) rfl (by rw [ev]; rfl) (by decide) rfl (fun ls hl => ?_)
                clear ev
                refine lv_goto (tgt := 9) hx hb dX9_fills_121 (by decide) ?_
                exact ih v3_17 v4_18 σ_16 _ _ _ hm hW hS (lv_sub hl [3, 4, 5, 1, 0] rfl)
            · replace hm := rc_f hm c_21
              refine lv_goto (tgt := 118) hx hb dX9_fills_45 (by decide) ?_
              obtain ⟨v4_20, ev⟩ : ∃ y : Int32, y = (v4 + 1) := ⟨_, rfl⟩
              replace hm := rc_lt_at hm ev
              refine lv_iinc (v := v4_20) (lv' := [(4, .int v4_20), (0, .ref a0), (1, .int v1), (2, .int v2), (3, .int v3)]) hx hb dX9_fills_118 hl (k := 4) rfl (by rw [ev]; rfl) (by decide) rfl (fun ls hl => ?_)
              clear ev
              refine lv_goto (tgt := 9) hx hb dX9_fills_121 (by decide) ?_
              exact ih v3 v4_20 σ_4 _ _ _ hm hW hS (lv_sub hl [1, 2, 3, 4, 0] rfl)
  unfold f_X9_fills at hm
  refine lv_iload_n hx hb dX9_fills_0 rfl (lv_at hl 1 rfl) ?_
  refine lv_iconst (v := 1) hx hb dX9_fills_1 (by decide) ?_
  refine lv_iadd hx hb dX9_fills_2 ?_
  refine lv_iload_n hx hb dX9_fills_3 rfl (lv_at hl 2 rfl) ?_
  refine lv_imul hx hb dX9_fills_4 ?_
  refine lv_topi (fun v3_1 ev => ?_)
  replace hm := rc_lt_at hm ev
  clear ev
  refine lv_istore_n (lv' := [(3, .int v3_1), (0, .ref a0), (1, .int u1), (2, .int u2)]) hx hb dX9_fills_5 rfl hl (by decide) rfl (fun ls hl => ?_)
  refine lv_iconst (v := 0) hx hb dX9_fills_6 (by decide) ?_
  refine lv_istore (lv' := [(4, .int (0 : Int32)), (3, .int v3_1), (0, .ref a0), (1, .int u1), (2, .int u2)]) hx hb dX9_fills_7 hl (by decide) rfl (fun ls hl => ?_)
  refine lp_9 u1 u2 _ (fun v3_25 v4_26 σ_27 H locs ls hm hW hS hl => ?_) rc_fu v3_1 (0 : Int32) σ _ _ _ hm hW hS (lv_sub hl [2, 3, 4, 1, 0] rfl)
  refine lv_aload_n hx hb dX9_fills_124 rfl (lv_at hl 0 rfl) ?_
  refine rg_10_1 hx hb hts hown hK hW h0 tw_7_70 dX9_fills_125 ?_
  refine lv_bipush (v := 7) hx hb dX9_fills_128 (by decide) ?_
  refine lv_dup2_11 hx hb dX9_fills_130 rfl rfl ?_
  refine rc_ialdj (j := 7) hx hb hK hW (rc_t_10_1 hT h0) (by decide) rfl (rc_inD (by decide)) (by decide) dX9_fills_131 ?_
  refine lv_iload_n hx hb dX9_fills_132 rfl (lv_at hl 3 rfl) ?_
  refine lv_iadd hx hb dX9_fills_133 ?_
  refine rc_iastj (j := 7) hx hb hK hW hS (rc_t_10_1 hT h0) (by decide) (fun _ => rfl) (rc_inD (by decide)) (by decide) dX9_fills_134 (fun σ_28 H locs eσ hW hS => ?_)
  replace hm := rc_lt_at hm eσ
  clear eσ
  refine lv_aload_n hx hb dX9_fills_135 rfl (lv_at hl 0 rfl) ?_
  refine rg_10_1 hx hb hts hown hK hW h0 tw_7_70 dX9_fills_136 ?_
  refine lv_bipush (v := 11) hx hb dX9_fills_139 (by decide) ?_
  refine lv_iload_n hx hb dX9_fills_141 rfl (lv_at hl 1 rfl) ?_
  refine lv_iadd hx hb dX9_fills_142 ?_
  have hi_29 := (rc_ix hm).1
  replace hm := (rc_ix hm).2
  refine rc_ialdj (j := ((11 : Int32) + u1).toNatClampNeg) hx hb hK hW (rc_t_10_1 hT h0) (by decide) rfl hi_29 rfl dX9_fills_143 ?_
  refine lv_iload_n hx hb dX9_fills_144 rfl (lv_at hl 2 rfl) ?_
  refine lv_iconst (v := 3) hx hb dX9_fills_145 (by decide) ?_
  refine lv_idiv hx hb dX9_fills_146 (by decide) ?_
  refine lv_isub hx hb dX9_fills_147 ?_
  refine lv_topi (fun v4_30 ev => ?_)
  replace hm := rc_lt_at hm ev
  clear ev
  refine lv_istore (lv' := [(4, .int v4_30), (0, .ref a0), (1, .int u1), (2, .int u2), (3, .int v3_25)]) hx hb dX9_fills_148 hl (by decide) rfl (fun ls hl => ?_)
  refine lv_aload_n hx hb dX9_fills_150 rfl (lv_at hl 1 rfl) ?_
  refine rg_10_1 hx hb hts hown hK hW h0 tw_7_70 dX9_fills_151 ?_
  refine lv_bipush (v := 11) hx hb dX9_fills_154 (by decide) ?_
  refine lv_iload_n hx hb dX9_fills_156 rfl (lv_at hl 2 rfl) ?_
  refine lv_iadd hx hb dX9_fills_157 ?_
  refine lv_iload hx hb dX9_fills_158 (lv_at hl 0 rfl) ?_
  refine lv_if_ge (tgt := 167) hx hb dX9_fills_160 (by decide) (fun c_35 => ?_) (fun c_35 => ?_)
  · replace hm := rc_t hm c_35
    refine lv_iload hx hb dX9_fills_167 (lv_at hl 0 rfl) ?_
    have hi_31 := (rc_ix hm).1
    replace hm := (rc_ix hm).2
    refine rc_iastj (j := ((11 : Int32) + u1).toNatClampNeg) hx hb hK hW hS (rc_t_10_1 hT h0) (by decide) (fun _ => rfl) hi_31 rfl dX9_fills_169 (fun σ_32 H locs eσ hW hS => ?_)
    replace hm := rc_lt_at hm eσ
    clear eσ
    exact rc_evret hx hb hr hlocks hW hS (Nat.le_of_ble_eq_true rfl) (Nat.le_of_ble_eq_true rfl) hm dX9_fills_170
  · replace hm := rc_f hm c_35
    refine lv_iconst (v := 0) hx hb dX9_fills_163 (by decide) ?_
    refine lv_goto (tgt := 169) hx hb dX9_fills_164 (by decide) ?_
    have hi_33 := (rc_ix hm).1
    replace hm := (rc_ix hm).2
    refine rc_iastj (j := ((11 : Int32) + u1).toNatClampNeg) hx hb hK hW hS (rc_t_10_1 hT h0) (by decide) (fun _ => rfl) hi_33 rfl dX9_fills_169 (fun σ_34 H locs eσ hW hS => ?_)
    replace hm := rc_lt_at hm eσ
    clear eσ
    exact rc_evret hx hb hr hlocks hW hS (Nat.le_of_ble_eq_true rfl) (Nat.le_of_ble_eq_true rfl) hm dX9_fills_170
